/-! ===== ends of a method; the whole run ===== -/
section XTH
variable {p : Program} {l : Launch} {e : Env} {R : Room} {s : State} {m : MethodId} {args : Array Value} {below : List Frame} {meth : Method} {c : Code} {H : Heap} {locs : List Loc} {cells slots : Nat} {Q : State → Prop}
variable {mc ms : Nat} {free : Addr → Prop} {a : Array Value} {ls : Array Slot} {st0 rest : List Value}
variable {Qc : Array Value → State → Outcome → State → Prop} {XC : String → State → State → Prop}
/-! xthrow0 is the kit's starting text vx_throw0, with the heap's size said exactly -/
theorem xthrow0 {cc : ByteArray} {pc : Nat} (hexec : p.tables.exec = Jvm.exec) (hb : c.code = cc) (hl : l.stackTraces = false) {own cls : String} {names : List String} {ik ic mc ms : Nat} {A : Nat → Prop}
    (hown : s.vm.findClass own = some m.cls) (hcls : Bundle.fit cls = true) (hnames : ∀ n ∈ names, Bundle.fit n = true)
    (hk : (Cond.classLink own ik cls).before args s = true) (hini : (Cond.initialized cls).before args s = true) (hat : ∀ w ∈ vx_at0 own ic cls names, w.before args s = true)
    (hgood : ∀ w ∈ Cond.classLink own ik cls :: Cond.initialized cls :: vx_at0 own ic cls names, vx_ot w = true)
    (hU : vx_Zq Bundle.tN "UNASSIGNED_STACK" Bundle.steD A s s.heap) (hN : vx_Zq Bundle.tN "SUPPRESSED_SENTINEL" Bundle.listD A s s.heap) (hS : va_S A s.heap H locs) (hsize : ls.size = c.maxLocals)
    (d0 : decode cc pc = .ok (.new ik, 3)) (d3 : decode cc (pc + 3) = .ok (.dup, 1)) (d4 : decode cc (pc + 4) = .ok (.invokespecial ic, 3)) (d7 : decode cc (pc + 7) = .ok (.athrow, 1))
    (hout : ∀ x ∈ c.exceptionTable.toList, covers x (pc + 7) = false)
    (hRframes : names.length + 3 < R.frames) (hRlocals : (rest.map fun v => v.category).sum + (13 * (names.length + 1) + 42) ≤ R.locals) (hRcells : cells + 1 ≤ R.cells) (hRslots : slots + 6 ≤ R.slots) (hlocks : meth.locks = false)
    (hx : ∀ t : State, s.vm.Alike t.vm → t.heap.size = H.size + 1 → (∀ q : Nat, q < H.size → t.heap[q]? = H[q]?) → XC cls s t)
    (hf : ∀ z ∈ locs, free z.base) (hc : cells + 1 ≤ mc) (hs : slots + 6 ≤ ms) :
    W p l e R s m args below meth c H locs cells slots (vx_MQ below Qc XC args s mc ms free) (F0 m pc ls rest) := by
  intro T hT X
  have htr : e.platform.stackTraces = false := (show e.platform.stackTraces = l.stackTraces by rw [X.admits.platform]).trans hl
  have Y := vx_rebase X (R' := { frames := R.frames, locals := R.locals, cells := 1, slots := 6 }) (Nat.le_refl _) (Nat.le_refl _) hRcells hRslots
  obtain ⟨s', hA⟩ : ∃ z, z = (T.setVm s.vm).setFrames (.invoking m args :: below) := ⟨_, rfl⟩
  rw [← hA] at Y
  have hvm : s'.vm = s.vm := by rw [hA]; rfl
  have hhp : s'.heap = H := by rw [hA]; exact hT
  have hW0 : s.WarmedH s'.vm := by rw [hvm]; exact State.WarmedH.refl s
  have hat' : ∀ w ∈ vx_at0 own ic cls names, w.before args s' = true := fun w hw => vx_ot_at hW0 hvm.symm (hgood w (List.mem_cons_of_mem _ (List.mem_cons_of_mem _ hw))) (hat w hw)
  have hk' : (Cond.classLink own ik cls).before args s' = true := vx_ot_at hW0 hvm.symm (hgood _ List.mem_cons_self) hk
  have hini' : (Cond.initialized cls).before args s' = true := vx_ot_at hW0 hvm.symm (hgood _ (List.mem_cons_of_mem _ List.mem_cons_self)) hini
  have hU' : vx_Zq Bundle.tN "UNASSIGNED_STACK" Bundle.steD A s' s'.heap := by rw [hhp]; exact vx_Zq.moved hW0.alike (hU.kept hS.2.1)
  have hN' : vx_Zq Bundle.tN "SUPPRESSED_SENTINEL" Bundle.listD A s' s'.heap := by rw [hhp]; exact vx_Zq.moved hW0.alike (hN.kept hS.2.1)
  have h : ∀ w ∈ Bundle.ownAtoms0 own ic cls names, w.before args s' = true := vx_own hat' (vx_isRefq hU'.1) (vx_isRefq hN'.1) hU'.2.word hN'.2.word
  have hown' : s'.vm.findClass own = some m.cls := by rw [hvm]; exact hown
  have hins : (Cond.instantiable cls 6).before args s' = true := h _ (by simp [Bundle.ownAtoms0])
  obtain ⟨vm₁, cX, kX, hfX, hkX, -, -, X₁, st1⟩ := Y.newCold hexec (own := own) (C := cls) (index := ik) (n := 6) hown' hk' hins hini'
    (g := F0 m pc ls rest) rfl (by rw [hb]; exact d0) (Nat.le_refl _) (Nat.le_refl _)
  generalize hT1 : (T.setVm vm₁).pushCell { cls := cX, slots := kX.instanceTypes.map defaultValue, vm := .none } = T1 at X₁ st1
  have hcat : (Value.ref T.heap.size).category = 1 := rfl
  have hcellA : T1.heap[T.heap.size]? = some (freshCell cX kX) := by rw [← hT1]; exact State.heap_pushCell_size _ _
  have d3' : decode c.code (pc + 3) = .ok (.dup, 1) := by rw [hb]; exact d3
  obtain ⟨U, hsteps, hrun, hend, hW, hsame, ce, hce, hO⟩ := X₁.ctorThrow0 hexec htr (own := own) (cls := cls) (names := names) (ic := ic) hown' hcls hnames h (fun x hx => nomatch hx) hfX hkX hcellA (by rw [hhp, hT]; exact Nat.le_refl _)
    (g := { method := m, pc := pc + 4, locals := ls, stack := .ref T.heap.size :: .ref T.heap.size :: rest, locked := none }) rfl hsize rfl rfl (rest := rest) rfl
    (by rw [hb]; exact d4) (by rw [hb]; exact d7) hout hRframes (by simp only [List.map_cons, List.sum_cons, hcat]; omega) hlocks
  obtain ⟨f1, f2⟩ := vx_frame hsame
  rw [hhp] at f1 f2
  have f3 : U.heap.size = H.size + 1 := by
    have g1 := hsame.2.2.1
    have g2 := (Array.getElem?_eq_some_iff.mp hce).1
    have g3 : ({ U with vm := s'.vm } : State).heap.size = U.heap.size := rfl
    rw [g3, hhp] at g1
    rw [hT] at g2
    omega
  have hWs : s.WarmedH U.vm := State.WarmedH.trans hW0 hW
  have hcl : s.vm.findClass cls = some ce.cls := by
    have h9 := hO.cls
    rw [hvm] at h9
    exact h9
  have hall : s.sameButNew ({ U with vm := s.vm } : State) locs mc ms := by
    subst hA
    obtain ⟨e1, e2⟩ := hsame
    rw [State.setFrames_setFrames] at e1
    have h2 : (T.setVm s.vm).sameButNew ({ U with vm := s.vm } : State) [] (0 + 1) (0 + 6) := ⟨e1, e2⟩
    have h3 := X.same.trans h2
    rw [List.append_nil] at h3
    exact h3.mono hc hs
  refine ⟨U, ?_, .threw T.heap.size, hrun, hend, Or.inr ⟨T.heap.size, rfl, cls, ce, locs, hx U hWs.alike f3 (fun q hq => f2 q hq (fun z hz => nomatch hz)), hce, hO.vm, hcl, hWs, hall, hf⟩⟩
  refine st1 _ ?_
  show Steps p.tables e below (T1.setTop { method := m, pc := pc + 3, locals := ls, stack := .ref T.heap.size :: rest, locked := none }) _
  jvm_step X₁.here [X₁.here.top, hexec, d3', Value.category]
  exact hsteps
end XTH
theorem xTG_good : ∀ w ∈ xTG, goodWord w = true := fun w h => (List.mem_filter.mp h).2
theorem xEx.moved {B : Nat} {xv : Nat → Value} {scr : Nat × (Nat → Int32)} {s U : State} (h : xEx B xv scr s) (hW : s.WarmedH U.vm) (hq : ∀ q : Nat, q < s.heap.size → ¬ xA0 B q → U.heap[q]? = s.heap[q]?) : xEx B xv scr U := by
  obtain ⟨h1, ⟨b, h2, h2'⟩, ⟨t, h3, h3', h3''⟩, h4, h5, ⟨adK, adV, h6, h6', h6''⟩, h7, h8, h9, h10, h11, h12, h13, h14⟩ := h
  have hal := hW.alike
  refine ⟨h1, ⟨b, h2, (va_T.moved hal h2').kept hq⟩, ⟨t, h3, (va_Z.moved hal h3').kept hq, (va_T.moved hal h3'').kept hq⟩, (va_Z.moved hal h4).kept hq, (va_Z.moved hal h5).kept hq, ⟨adK, adV, h6, (xSt.moved hal h6').kept hq, fun q hq => (h6'' q hq).warm hW⟩, (vx_Zq.moved hal h7).kept hq, (vx_Zq.moved hal h8).kept hq, fun w hw => ?_, ⟨va_AO.moved hal h10.1, va_AO.moved hal h10.2.1, va_AO.moved hal h10.2.2.1, va_AO.moved hal h10.2.2.2⟩, over_moved hal h11, fun a b ha hb hab => va_Nc.moved hal (h12 a b ha hb hab), fun z hz => ?_, fun z hz => ?_⟩
  rotate_left
  · obtain ⟨t, g1, g2, g3⟩ := h13 z hz
    exact ⟨t, g1, (va_Z.moved hal g2).kept hq, (va_T.moved hal g3).kept hq⟩
  · obtain ⟨t, g1, g2, g3⟩ := h14 z hz
    exact ⟨t, g1, (va_Z.moved hal g2).kept hq, (va_T.moved hal g3).kept hq⟩
  have hz := h9 w hw
  have hn := (List.mem_filter.mp hw).2
  cases w <;> first | exact va_Nw.warmF hW hz | exact va_Nw.warmM hW hz | exact va_Nw.warmD hW hz | exact va_Nw.warmC hW hz | cases hn
theorem xargs_len {B : Nat} {xv : Nat → Value} (hxv : ∀ k, (xv k).category = 1) : ∀ as : List Value, (lg_sl (as.map (xVal B xv))).length = (xargs as).length := by
  intro as
  induction as with
  | nil => rfl
  | cons v r ih =>
    have e : lg_sl ((v :: r).map (xVal B xv)) = (if (xVal B xv v).category = 2 then [.val (xVal B xv v), .second] else [.val (xVal B xv v)]) ++ lg_sl (r.map (xVal B xv)) := by simp [lg_sl]
    rw [e, xVal_cat hxv, List.length_append, ih]
    cases v <;> simp [xargs, Value.category] <;> omega
theorem xas_nones {B : Nat} {xv : Nat → Value} : ∀ (n j : Nat), xas B xv j (List.replicate n none) = [] := by
  intro n
  induction n with
  | zero => intro j; rfl
  | succ n ih => intro j; rw [List.replicate_succ]; exact ih (j + 1)
theorem xas_args {B : Nat} {xv : Nat → Value} (hxv : ∀ k, (xv k).category = 1) : ∀ (as : List Value) (n j : Nat), xas B xv j (xargs as ++ List.replicate n none) = lv_args j (as.map (xVal B xv)) := by
  intro as
  induction as with
  | nil => intro n j; exact xas_nones n j
  | cons v r ih =>
    intro n j
    have e : lv_args j ((v :: r).map (xVal B xv)) = (j, xVal B xv v) :: lv_args (if (xVal B xv v).category = 2 then j + 2 else j + 1) (r.map (xVal B xv)) := rfl
    rw [e, xVal_cat hxv]
    cases v <;> simp only [xargs, List.cons_append, xas, Value.category] <;> first | rw [ih]; rfl
theorem xentry_LV {B : Nat} {xv : Nat → Value} (hxv : ∀ k, (xv k).category = 1) {as : List Value} {n : Nat} (h : (xargs as).length ≤ n) : xLV B xv ((lg_sl (as.map (xVal B xv)) ++ List.replicate (n - (lg_sl (as.map (xVal B xv))).length) Slot.unset).toArray) (xentry as n) n := by
  have h1 := lv_entry (as.map (xVal B xv)) (n := n) (by rw [xargs_len hxv]; exact h)
  refine ⟨?_, by simp [xentry]; omega⟩
  unfold xentry
  rw [xas_args hxv]
  exact h1
theorem xdec_ok {k pc n : Nat} {ins : Instr} (h : xdec k pc ins n = true) : decode (xbyf k) pc = .ok (ins, n) := by
  unfold xdec at h
  split at h
  · rename_i j mm hj
    simp only [Bool.and_eq_true, decide_eq_true_eq] at h
    rw [hj, h.1, h.2]
  · cases h
theorem xexc_ok {a : Nat} (ha : a < 4) {args : Array Value} {s : State} (hts : ∀ w ∈ xTG, w.before args s = true) (hn : ∀ w ∈ xNest, va_Nw w s) :
    Bundle.fit (xEX a) = true ∧ (∀ w ∈ vx_at0 RX7 (xIC a) (xEX a) ["java/lang/RuntimeException", "java/lang/Exception"], w.before args s = true) ∧
    (∀ ik, ∀ w ∈ Jvm.Cond.classLink RX7 ik (xEX a) :: Jvm.Cond.initialized (xEX a) :: vx_at0 RX7 (xIC a) (xEX a) ["java/lang/RuntimeException", "java/lang/Exception"], vx_ot w = true) ∧ Jvm.Cond.initialized (xEX a) ∈ xTG := by
  have key : ∀ a, a < 4 → Bundle.fit (xEX a) = true ∧ (∀ w ∈ (vx_at0 RX7 (xIC a) (xEX a) ["java/lang/RuntimeException", "java/lang/Exception"]).filter goodWord, w ∈ lw_tbl) ∧ (∀ w ∈ (vx_at0 RX7 (xIC a) (xEX a) ["java/lang/RuntimeException", "java/lang/Exception"]).filter (fun w => !goodWord w), w ∈ lw_tbl ∧ xisN w = true ∧ w.onTables = true) ∧ ((vx_at0 RX7 (xIC a) (xEX a) ["java/lang/RuntimeException", "java/lang/Exception"]).all vx_ot) = true ∧ Jvm.Cond.initialized (xEX a) ∈ lw_tbl := by decide +kernel
  obtain ⟨h1, h2, h3, h4, h5⟩ := key a ha
  refine ⟨h1, fun w hw => ?_, fun ik w hw => ?_, List.mem_filter.mpr ⟨List.mem_append_right _ h5, rfl⟩⟩
  · by_cases hg : goodWord w = true
    · exact hts w (List.mem_filter.mpr ⟨List.mem_append_right _ (h2 w (List.mem_filter.mpr ⟨hw, hg⟩)), hg⟩)
    · obtain ⟨g1, g2, g3⟩ := h3 w (List.mem_filter.mpr ⟨hw, by simpa using hg⟩)
      exact va_Nw.use g3 (hn w (List.mem_filter.mpr ⟨g1, g2⟩))
  · rcases List.mem_cons.mp hw with rfl | hw
    · rfl
    · rcases List.mem_cons.mp hw with rfl | hw
      · rfl
      · exact List.all_eq_true.mp h4 w hw
theorem xinv_end {i : Nat} {aux : List Int} {ls : xL} {st : List Value} {σ : xS} {r : xR} : ¬ xinv i aux ls st σ = some (.inr (.inr r)) := by
  intro h
  unfold xinv at h
  split at h
  · rename_i k' na kind pl
    by_cases c20 : kind = 20
    · rw [if_pos c20] at h
      simp only [xgo] at h
      repeat' (split at h)
      all_goals (cases h)
    rw [if_neg c20] at h
    by_cases c21 : kind = 21
    · rw [if_pos c21] at h
      simp only [xcopy, xgo] at h
      repeat' (split at h)
      all_goals (cases h)
    rw [if_neg c21] at h
    by_cases c22 : kind = 22
    · rw [if_pos c22] at h
      simp only [xclone, xalloc, xgo] at h
      repeat' (split at h)
      all_goals (cases h)
    rw [if_neg c22] at h
    by_cases c24 : kind = 24
    · rw [if_pos c24] at h
      simp only [xgo] at h
      repeat' (split at h)
      all_goals (cases h)
    rw [if_neg c24] at h
    by_cases c25 : kind = 25
    · rw [if_pos c25] at h
      simp only [xgo] at h
      repeat' (split at h)
      all_goals (cases h)
    rw [if_neg c25] at h
    by_cases c26 : kind = 26
    · rw [if_pos c26] at h
      simp only [xgo] at h
      repeat' (split at h)
      all_goals (cases h)
    rw [if_neg c26] at h
    by_cases c27 : kind = 27
    · rw [if_pos c27] at h
      simp only [xgo] at h
      repeat' (split at h)
      all_goals (cases h)
    rw [if_neg c27] at h
    split at h
    · simp only [xcall] at h
      repeat' (split at h)
      all_goals (cases h)
    · cases h
  · cases h
theorem xinv_inl {i i' : Nat} {aux : List Int} {ls ls' : xL} {st st' : List Value} {σ σ' : xS} (h : xinv i aux ls st σ = some (.inl (i', ls', st', σ'))) : σ' = σ ∨ (∃ a e, σ' = xwr σ a e) ∨ (∃ e n, σ.2.1.1 < 900000 ∧ σ' = xnew σ e n) := by
  unfold xinv at h
  split at h
  · rename_i k' na kind pl
    by_cases c20 : kind = 20
    · rw [if_pos c20] at h
      simp only [xgo] at h
      repeat' (split at h)
      all_goals first
        | (cases h; done)
        | (simp only [Option.some.injEq, Sum.inl.injEq, Prod.mk.injEq, reduceCtorEq] at h
           obtain ⟨-, -, -, rfl⟩ := h
           first | exact Or.inl rfl | exact Or.inr (Or.inl ⟨_, _, rfl⟩) | exact Or.inr (Or.inr ⟨_, _, by assumption, rfl⟩))
    rw [if_neg c20] at h
    by_cases c21 : kind = 21
    · rw [if_pos c21] at h
      simp only [xcopy, xgo] at h
      repeat' (split at h)
      all_goals first
        | (cases h; done)
        | (simp only [Option.some.injEq, Sum.inl.injEq, Prod.mk.injEq, reduceCtorEq] at h
           obtain ⟨-, -, -, rfl⟩ := h
           first | exact Or.inl rfl | exact Or.inr (Or.inl ⟨_, _, rfl⟩) | exact Or.inr (Or.inr ⟨_, _, by assumption, rfl⟩))
    rw [if_neg c21] at h
    by_cases c22 : kind = 22
    · rw [if_pos c22] at h
      simp only [xclone, xalloc, xgo] at h
      repeat' (split at h)
      all_goals first
        | (cases h; done)
        | (simp only [Option.some.injEq, Sum.inl.injEq, Prod.mk.injEq, reduceCtorEq] at h
           obtain ⟨-, -, -, rfl⟩ := h
           first | exact Or.inl rfl | exact Or.inr (Or.inl ⟨_, _, rfl⟩) | exact Or.inr (Or.inr ⟨_, _, by assumption, rfl⟩))
    rw [if_neg c22] at h
    by_cases c24 : kind = 24
    · rw [if_pos c24] at h
      simp only [xgo] at h
      repeat' (split at h)
      all_goals first
        | (cases h; done)
        | (simp only [Option.some.injEq, Sum.inl.injEq, Prod.mk.injEq, reduceCtorEq] at h
           obtain ⟨-, -, -, rfl⟩ := h
           first | exact Or.inl rfl | exact Or.inr (Or.inl ⟨_, _, rfl⟩) | exact Or.inr (Or.inr ⟨_, _, by assumption, rfl⟩))
    rw [if_neg c24] at h
    by_cases c25 : kind = 25
    · rw [if_pos c25] at h
      simp only [xgo] at h
      repeat' (split at h)
      all_goals first
        | (cases h; done)
        | (simp only [Option.some.injEq, Sum.inl.injEq, Prod.mk.injEq, reduceCtorEq] at h
           obtain ⟨-, -, -, rfl⟩ := h
           first | exact Or.inl rfl | exact Or.inr (Or.inl ⟨_, _, rfl⟩) | exact Or.inr (Or.inr ⟨_, _, by assumption, rfl⟩))
    rw [if_neg c25] at h
    by_cases c26 : kind = 26
    · rw [if_pos c26] at h
      simp only [xgo] at h
      repeat' (split at h)
      all_goals first
        | (cases h; done)
        | (simp only [Option.some.injEq, Sum.inl.injEq, Prod.mk.injEq, reduceCtorEq] at h
           obtain ⟨-, -, -, rfl⟩ := h
           first | exact Or.inl rfl | exact Or.inr (Or.inl ⟨_, _, rfl⟩) | exact Or.inr (Or.inr ⟨_, _, by assumption, rfl⟩))
    rw [if_neg c26] at h
    by_cases c27 : kind = 27
    · rw [if_pos c27] at h
      simp only [xgo] at h
      repeat' (split at h)
      all_goals first
        | (cases h; done)
        | (simp only [Option.some.injEq, Sum.inl.injEq, Prod.mk.injEq, reduceCtorEq] at h
           obtain ⟨-, -, -, rfl⟩ := h
           first | exact Or.inl rfl | exact Or.inr (Or.inl ⟨_, _, rfl⟩) | exact Or.inr (Or.inr ⟨_, _, by assumption, rfl⟩))
    rw [if_neg c27] at h
    split at h
    · exact absurd h xcall_no
    · cases h
  · cases h
theorem xno_end {k i : Nat} {ins : Instr} {aux : List Int} {ls : xL} {st : List Value} {σ : xS} {r : xR} (hst : stp k i ins aux ls st σ = some (.inr (.inr r))) (h1 : ins ≠ .ireturn) (h2 : ins ≠ .lreturn) (h4 : ins ≠ .areturn) (h5 : ins ≠ .return_) (h6 : ∀ n, ins ≠ .new n) (h7 : ∀ n, ins ≠ .invokevirtual n) (h8 : ∀ n, ins ≠ .invokespecial n) (h9 : ∀ n, ins ≠ .invokestatic n) : False := by
  cases ins <;> first | (exact h1 rfl) | (exact h2 rfl) | (exact h4 rfl) | (exact h5 rfl) | (exact h6 _ rfl) | (exact h7 _ rfl) | (exact h8 _ rfl) | (exact h9 _ rfl) | (cases hst; done) | skip
  all_goals simp only [stp, xpush, xloadI, xloadL, xloadA, xstoreI, xstoreL, xstoreA, xII, xLL, xLI, xIf, xIc, xaldI, xaldB, xaldA, xastI, xastB, xastA, xget, xput, xalloc, xgo] at hst
  all_goals (repeat' (split at hst))
  all_goals (cases hst)
section XY
variable {B : Nat} {xv : Nat → Value} {scr : Nat × (Nat → Int32)} {D : va_G} {dA : Nat → ClassId} {n0 k d : Nat} {p : Program} {l : Launch} {e : Env} {R : Room} {s : State} {m : MethodId} {args : Array Value} {below : List Frame} {meth : Method} {c : Code} {Q : State → Prop}
theorem xs_all (ins : Instr) : xOKc B xv scr D dA n0 k d p l e R s m args below meth c Q ins := by
  cases ins with
  | iconst n => exact xs_iconst
  | bipush n => exact xs_bipush
  | sipush n => exact xs_sipush
  | lconst n => exact xs_lconst
  | ldc n => exact xs_ldc
  | ldc2_w n => exact xs_ldc2
  | ldc_w n => exact xs_ldcw
  | aconst_null => exact xs_null
  | iushr => exact xs_iushr
  | ineg => exact xs_ineg
  | ifnull z => exact xs_ifnull
  | ifnonnull z => exact xs_ifnonnull
  | checkcast n => exact xs_checkcast
  | getstatic n => exact xs_getstatic
  | iload n => exact xs_iload
  | iload_n n => exact xs_iload_n
  | lload n => exact xs_lload
  | lload_n n => exact xs_lload_n
  | aload n => exact xs_aload
  | aload_n n => exact xs_aload_n
  | istore n => exact xs_istore
  | istore_n n => exact xs_istore_n
  | lstore n => exact xs_lstore
  | lstore_n n => exact xs_lstore_n
  | astore n => exact xs_astore
  | astore_n n => exact xs_astore_n
  | iinc n z => exact xs_iinc
  | iadd => exact xs_iadd
  | isub => exact xs_isub
  | imul => exact xs_imul
  | iand => exact xs_iand
  | ior => exact xs_ior
  | ishl => exact xs_ishl
  | ishr => exact xs_ishr
  | idiv => exact xs_idiv
  | irem => exact xs_irem
  | ladd => exact xs_ladd
  | lsub => exact xs_lsub
  | lmul => exact xs_lmul
  | land => exact xs_land
  | lor => exact xs_lor
  | lxor => exact xs_lxor
  | ldiv => exact xs_ldiv
  | lshl => exact xs_lshl
  | lshr => exact xs_lshr
  | lushr => exact xs_lushr
  | lcmp => exact xs_lcmp
  | i2l => exact xs_i2l
  | l2i => exact xs_l2i
  | i2b => exact xs_i2b
  | i2c => exact xs_i2c
  | dup => exact xs_dup
  | pop => exact xs_pop
  | dup2 => exact xs_dup2
  | goto z => exact xs_goto
  | ifCond cc z => cases cc <;> first | exact xs_if_eq | exact xs_if_ne | exact xs_if_lt | exact xs_if_ge | exact xs_if_gt | exact xs_if_le
  | if_icmp cc z => cases cc <;> first | exact xs_ic_eq | exact xs_ic_ne | exact xs_ic_lt | exact xs_ic_ge | exact xs_ic_gt | exact xs_ic_le
  | tableswitch a b cc dd => exact xs_switch
  | iaload => exact xs_iaload
  | baload => exact xs_baload
  | aaload => exact xs_aaload
  | iastore => exact xs_iastore
  | bastore => exact xs_bastore
  | aastore => exact xs_aastore
  | arraylength => exact xs_alen
  | getfield n => exact xs_getfield
  | putfield n => exact xs_putfield
  | new n => exact xs_new
  | newarray t => exact xs_newarray
  | anewarray n => exact xs_anewarray
  | invokevirtual n => exact xs_virtual
  | invokespecial n => exact xs_spec
  | invokestatic n => exact xs_static
  | ireturn =>
    intro C i pc aux ls st σ i' ls' st' σ' H LS locs cells slots hrow hst
    simp only [stp] at hst
    unfold xret at hst
    split at hst
    · split at hst
      · split at hst <;> cases hst
      · cases hst
    · cases hst
  | lreturn =>
    intro C i pc aux ls st σ i' ls' st' σ' H LS locs cells slots hrow hst
    simp only [stp] at hst
    split at hst <;> cases hst
  | areturn =>
    intro C i pc aux ls st σ i' ls' st' σ' H LS locs cells slots hrow hst
    simp only [stp] at hst
    split at hst <;> cases hst
  | return_ =>
    intro C i pc aux ls st σ i' ls' st' σ' H LS locs cells slots hrow hst
    simp only [stp] at hst
    split at hst <;> cases hst
  | _ =>
    intro C i pc aux ls st σ i' ls' st' σ' H LS locs cells slots hrow hst
    cases hst
/-- what a call of the table's methods leaves -/
def xQr (B : Nat) (xv : Nat → Value) (D : va_G) (dA : Nat → ClassId) (r : xR) (σ' : xS) : Array Value → State → Outcome → State → Prop := fun _ st o t => (∃ v, r = .inl v ∧ o = .returned (v.map (xVal B xv))) ∧ xHR B xv D dA σ' t.heap ∧ va_F (xA0 B) st t
def xXr (B : Nat) (xv : Nat → Value) (D : va_G) (dA : Nat → ClassId) (r : xR) (σ' : xS) : String → State → State → Prop := fun E st t => (∃ a, r = .inr a ∧ a < 4 ∧ E = xEX a) ∧ xHR B xv D dA σ' t.heap ∧ va_F (xA0 B) st t
def xbump (r : xR) (σ : xS) : xS := match r with
  | .inl _ => σ
  | .inr _ => (σ.1, (σ.2.1.1 + 1, σ.2.1.2 + 6), σ.2.2)
theorem xs_end {i pc : Nat} {ins : Instr} {aux : List Int} {ls : xL} {st : List Value} {σ : xS} {r : xR} {H : Heap} {LS : Array Slot} {locs : List Loc} {cells slots mc ms : Nat}
    (C : xCx B xv scr D dA n0 k d p l R s m args meth c) (hnt : xowf k = RX7 → ∀ x ∈ c.exceptionTable.toList, False) (hrow : xrow k i (pc, ins, aux) = true) (hst : stp k i ins aux ls st σ = some (.inr (.inr r)))
    (hR : xHR B xv D dA σ H) (hn9 : ∀ a, r = .inr a → σ.2.1.1 < 1000000) (hL : xLV B xv LS ls (xmlf k)) (hS : va_S (xA0 B) s.heap H locs) (hc : cells + n0 = σ.2.1.1) (hmc : mc + n0 = (xbump r σ).2.1.1) (hms : slots + (xbump r σ).2.1.2 = ms + σ.2.1.2) (hrc : mc ≤ R.cells) (hrs : ms ≤ R.slots) (hd : 0 ≤ d) :
    W p l e R s m args below meth c H locs cells slots (vx_MQ below (xQr B xv D dA r (xbump r σ)) (xXr B xv D dA r (xbump r σ)) args s mc ms (xA0 B)) (F0 m pc LS (st.map (xVal B xv))) := by
  obtain ⟨hx, hb, hml, hown, hts, hK, hE, hr, hlocks, hname, hl, hRf, hRl, hB⟩ := C
  have hF : ∀ t : State, t.heap = H → va_F (xA0 B) s t := fun t ht => ⟨by rw [ht]; exact hS.1, fun q h1 h2 => by rw [ht]; exact hS.2.1 q h1 h2⟩
  cases ins with
  | ireturn =>
    obtain ⟨hdg, -, -⟩ := xrow_parts hrow (fun _ _ _ _ h => by cases h)
    simp only [stp] at hst
    unfold xret at hst
    split at hst
    · rename_i v
      split at hst
      · rename_i ty hty
        split at hst
        · rename_i hn
          cases hst
          simp only [xbump] at hmc hms
          have e1 : mc = cells := by omega
          have e2 : ms = slots := by omega
          subst e1
          subst e2
          exact vx_ret (W.zret hx hb (hr.trans hty) hn (fun t ht _ => ⟨⟨_, rfl, rfl⟩, by rw [ht]; exact hR, hF t ht⟩) hS.2.2 hdg hlocks)
        · cases hst
      · cases hst
    · cases hst
  | lreturn =>
    obtain ⟨hdg, hck, -⟩ := xrow_parts hrow (fun _ _ _ _ h => by cases h)
    simp only [stp] at hst
    split at hst
    · cases hst
      simp only [xbump] at hmc hms
      have e1 : mc = cells := by omega
      have e2 : ms = slots := by omega
      subst e1
      subst e2
      exact vx_ret (W.lret hx hb (hr.trans (of_decide_eq_true hck)) (fun t ht _ => ⟨⟨_, rfl, rfl⟩, by rw [ht]; exact hR, hF t ht⟩) hS.2.2 hdg hlocks)
    · cases hst
  | areturn =>
    obtain ⟨hdg, hck, -⟩ := xrow_parts hrow (fun _ _ _ _ h => by cases h)
    simp only [stp] at hst
    split at hst
    · rename_i a
      cases hst
      simp only [xbump] at hmc hms
      have e1 : mc = cells := by omega
      have e2 : ms = slots := by omega
      subst e1
      subst e2
      have hv : xVal B xv (.ref a) = .null ∨ ∃ z, xVal B xv (.ref a) = .ref z := by
        rcases xVal_ref (B := B) (a := a) hE.1 with h | h
        · exact Or.inr h
        · exact Or.inl h
      obtain ⟨ty, hty1, hty2⟩ : ∃ ty, xrtf k = some ty ∧ ((∃ n, ty = .object n) ∨ ∃ t, ty = .array t) := by
        simp only [xck] at hck
        split at hck
        · rename_i t ht
          exact ⟨_, ht, Or.inr ⟨_, rfl⟩⟩
        · rename_i t ht
          exact ⟨_, ht, Or.inl ⟨_, rfl⟩⟩
        · cases hck
      exact vx_ret (W.aret hx hb (hr.trans hty1) hty2 hv (fun t ht _ => ⟨⟨_, rfl, rfl⟩, by rw [ht]; exact hR, hF t ht⟩) hS.2.2 hdg hlocks)
    · cases hst
  | return_ =>
    obtain ⟨hdg, hck, -⟩ := xrow_parts hrow (fun _ _ _ _ h => by cases h)
    simp only [stp] at hst
    split at hst
    · cases hst
      simp only [xbump] at hmc hms
      have e1 : mc = cells := by omega
      have e2 : ms = slots := by omega
      subst e1
      subst e2
      exact vx_ret (W.vret hx hb (hr.trans (of_decide_eq_true hck)) (fun t ht _ => ⟨⟨_, rfl, rfl⟩, by rw [ht]; exact hR, hF t ht⟩) hS.2.2 hdg hlocks)
    · cases hst
  | new ix =>
    obtain ⟨hdg, hck, -⟩ := xrow_parts hrow (fun _ _ _ _ h => by cases h)
    simp only [stp] at hst
    split at hst
    · unfold xalloc at hst
      split at hst <;> cases hst
    · rename_i _ eI pl icI
      split at hst
      case isFalse => cases hst
      rename_i hcat
      cases hst
      simp only [xbump] at hmc hms
      simp only [xck, Bool.and_eq_true, decide_eq_true_eq] at hck
      obtain ⟨⟨⟨⟨⟨⟨he, hown7⟩, hic⟩, hw⟩, hd3⟩, hd4⟩, hd7⟩ := hck
      · have hnt := hnt hown7
        have hel : eI.toNat < 4 := by omega
        rw [hown7] at hown hw
        rw [hic] at hd4
        obtain ⟨hfit, hhat, hgood, hini⟩ := xexc_ok hel (args := args) (s := s) hts hE.2.2.2.2.2.2.2.2.1
        have hsum := xcat_map (B := B) hE.cat st
        refine xthrow0 (Qc := xQr B xv D dA (.inr eI.toNat) (xbump (.inr eI.toNat) σ)) (XC := xXr B xv D dA (.inr eI.toNat) (xbump (.inr eI.toNat) σ)) (free := xA0 B) (names := ["java/lang/RuntimeException", "java/lang/Exception"]) (A := xA0 B) hx hb hl hown hfit (by decide) (hts _ (xwd_in hw)) (hts _ hini) hhat (hgood _) hE.2.2.2.2.2.2.1 hE.2.2.2.2.2.2.2.1 hS (by rw [hml]; exact hL.1.1) hdg (xdec_ok hd3) (xdec_ok hd4) (xdec_ok hd7) (fun x hx => (hnt x hx).elim) (by show 2 + 3 < R.frames; omega) (by rw [hsum]; show xcat st + (13 * 3 + 42) ≤ R.locals; omega) (by omega) (by omega) hlocks (fun t hal hz hq => ?_) hS.2.2 (by omega) (by omega)
        have hR1 := hR.1
        refine ⟨⟨_, rfl, hel, rfl⟩, ⟨by show t.heap.size = B + (σ.2.1.1 + 1); omega, by show σ.2.1.1 + 1 ≤ 1000000; have := hn9 _ rfl; omega, fun a e1 ha => ?_⟩, ⟨by have := hS.1; omega, fun q h1 h2 => (hq q (Nat.lt_of_lt_of_le h1 hS.1)).trans (hS.2.1 q h1 h2)⟩⟩
        obtain ⟨g1, g2⟩ := hR.2.2 a e1 ha
        exact ⟨Nat.lt_succ_of_lt g1, g2.kept (hq _ (by omega))⟩
    · cases hst
  | invokevirtual ix => exact (xinv_end (by simpa only [stp] using hst)).elim
  | invokespecial ix => exact (xinv_end (by simpa only [stp] using hst)).elim
  | invokestatic ix => exact (xinv_end (by simpa only [stp] using hst)).elim
  | tableswitch a b cc dd =>
    simp only [stp] at hst
    split at hst
    · split at hst
      · cases hst
      · split at hst <;> cases hst
    · cases hst
  | goto z => simp only [stp] at hst; cases hst
  | ifnull z =>
    simp only [stp, xgo] at hst
    repeat' (split at hst)
    all_goals (cases hst)
  | ifnonnull z =>
    simp only [stp, xgo] at hst
    repeat' (split at hst)
    all_goals (cases hst)
  | checkcast z =>
    simp only [stp, xgo] at hst
    repeat' (split at hst)
    all_goals (cases hst)
  | ifCond cc z =>
    simp only [stp] at hst
    unfold xIf at hst
    split at hst
    · split at hst <;> cases hst
    · cases hst
  | if_icmp cc z =>
    simp only [stp] at hst
    unfold xIc at hst
    split at hst
    · split at hst <;> cases hst
    · cases hst
  | _ => exact (xno_end hst (by intro h; cases h) (by intro h; cases h) (by intro h; cases h) (by intro h; cases h) (by intro _ h; cases h) (by intro _ h; cases h) (by intro _ h; cases h) (by intro _ h; cases h)).elim
end XY

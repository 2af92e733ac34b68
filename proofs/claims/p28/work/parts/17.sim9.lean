/-! ===== a whole run of the small machine is a run of the machine ===== -/
theorem xmono {k i : Nat} {ins : Instr} {aux : List Int} {ls : xL} {st : List Value} {σ : xS} {i' : Nat} {ls' : xL} {st' : List Value} {σ' : xS} (h : stp k i ins aux ls st σ = some (.inl (i', ls', st', σ'))) : σ.2.1.1 ≤ σ'.2.1.1 ∧ σ.2.1.2 ≤ σ'.2.1.2 ∧ σ'.2.2 = σ.2.2 := by
  have inv : ∀ {i : Nat} {aux : List Int}, xinv i aux ls st σ = some (.inl (i', ls', st', σ')) → σ.2.1.1 ≤ σ'.2.1.1 ∧ σ.2.1.2 ≤ σ'.2.1.2 ∧ σ'.2.2 = σ.2.2 := by
    intro i aux h
    rcases xinv_inl h with rfl | ⟨a, e, rfl⟩ | ⟨e, n, -, rfl⟩
    · exact ⟨Nat.le_refl _, Nat.le_refl _, rfl⟩
    · exact ⟨Nat.le_refl _, Nat.le_refl _, rfl⟩
    · exact ⟨Nat.le_add_right _ _, Nat.le_add_right _ _, rfl⟩
  cases ins <;> first | (cases h; done) | (exact inv (by simpa only [stp] using h)) | skip
  all_goals simp only [stp, xpush, xloadI, xloadL, xloadA, xstoreI, xstoreL, xstoreA, xII, xLL, xLI, xIf, xIc, xaldI, xaldB, xaldA, xastI, xastB, xastA, xget, xput, xalloc, xgo, xret, xinv, xcopy, xclone, xcall] at h
  all_goals (repeat' (split at h))
  all_goals first
    | (cases h; done)
    | (simp only [Option.some.injEq, Sum.inl.injEq, Prod.mk.injEq, reduceCtorEq, and_false, false_and] at h
       obtain ⟨-, -, -, rfl⟩ := h
       exact ⟨Nat.le_refl _, Nat.le_refl _, rfl⟩)
    | (simp only [Option.some.injEq, Sum.inl.injEq, Prod.mk.injEq, reduceCtorEq, and_false, false_and] at h
       obtain ⟨-, -, -, rfl⟩ := h
       exact ⟨Nat.le_add_right _ _, Nat.le_add_right _ _, rfl⟩)
theorem xmonoR : ∀ (n d k i : Nat) (ls : xL) (st : List Value) (σ : xS) (r : xR) (σ' : xS), ax n d k i ls st σ = some (r, σ') → σ.2.1.1 ≤ σ'.2.1.1 ∧ σ.2.1.2 ≤ σ'.2.1.2 ∧ σ'.2.2 = σ.2.2 := by
  intro n
  induction n with
  | zero => intro d k i ls st σ r σ' h; cases h
  | succ n ih =>
    intro d k i ls st σ r σ' h
    simp only [ax] at h
    split at h
    · cases h
    · split at h
      · cases h
      · rename_i hst
        obtain ⟨a1, a2, a3⟩ := xmono hst
        obtain ⟨b1, b2, b3⟩ := ih _ _ _ _ _ _ _ _ h
        exact ⟨Nat.le_trans a1 b1, Nat.le_trans a2 b2, b3.trans a3⟩
      · split at h
        · cases h
        · split at h
          · cases h
          · rename_i h1
            obtain ⟨a1, a2, a3⟩ := ih _ _ _ _ _ _ _ _ h1
            obtain ⟨b1, b2, b3⟩ := ih _ _ _ _ _ _ _ _ h
            exact ⟨Nat.le_trans a1 b1, Nat.le_trans a2 b2, b3.trans a3⟩
          · rename_i h1
            obtain ⟨a1, a2, a3⟩ := ih _ _ _ _ _ _ _ _ h1
            split at h
            · cases h
            · obtain ⟨b1, b2, b3⟩ := ih _ _ _ _ _ _ _ _ h
              exact ⟨Nat.le_trans a1 b1, Nat.le_trans a2 b2, b3.trans a3⟩
      · cases h
        exact ⟨Nat.le_refl _, Nat.le_refl _, rfl⟩
      · cases h
        exact ⟨Nat.le_succ _, Nat.le_add_right _ _, rfl⟩
/-- the table is checked -/
def xOKT : Prop := (∀ k i q, ft k i = some q → xrow k i q = true) ∧ ∀ k, k < 244 → xme k = true
def xcw (k : Nat) : Jvm.Cond := if xhn k = [] then .code (xynf k) (xbyf k) (xmlf k) (xrtf k) else .codeWith (xynf k) (xbyf k) (xmlf k) (xrtf k) ((xhn k).map (·.1))
def xws (k : Nat) : List Jvm.Cond := xcw k :: xTG
def xrm (d mc ms : Nat) : Room := { frames := d + 6, cells := mc, slots := ms, locals := 60 * d + 100 }
def xPc (B : Nat) (xv : Nat → Value) (scr : Nat × (Nat → Int32)) (D : va_G) (dA : Nat → ClassId) (as : List Value) (σ : xS) : Array Value → State → Prop := fun v U => v = (as.map (xVal B xv)).toArray ∧ xEx B xv scr U ∧ va_K D vwCl (xtys dA) U ∧ xHR B xv D dA σ U.heap
theorem xPc_blind {B : Nat} {xv : Nat → Value} {scr : Nat × (Nat → Int32)} {D : va_G} {dA : Nat → ClassId} {as : List Value} {σ : xS} : FrameBlind (xPc B xv scr D dA as σ) := by
  intro a U g mk h
  obtain ⟨h1, h2, h3, h4⟩ := h
  exact ⟨h1, h2.moved (U := U.calling g mk a) (State.WarmedH.refl U) (fun q _ _ => rfl), va_K.moved (u := U) (U := U.calling g mk a) (Vm.Alike.refl U.vm) h3, h4⟩
theorem xcw_in (T : xOKT) {k : Nat} (hk : k < 244) : xcw k ∈ xTG := by
  have h := T.2 k hk
  unfold xme at h
  simp only [Bool.and_eq_true] at h
  have h9 := h.2
  unfold xcw
  split
  · rename_i h0
    rw [if_pos h0] at h9
    exact xwd_in h9
  · rename_i h0
    rw [if_neg h0] at h9
    simp only [Bool.and_eq_true] at h9
    exact xwd_in h9.1
theorem xme_parts (T : xOKT) {k : Nat} (hk : k < 244) : Jvm.Cond.initialized (xynf k).cls ∈ xTG ∧ xmlf k ≤ 41 ∧ (xynf k).cls = xowf k ∧ Jvm.plainName (xynf k).cls = true ∧ ((xynf k).cls ≠ "java/lang/invoke/MethodHandle" ∧ (xynf k).cls ≠ "java/lang/invoke/VarHandle") ∧ xpc k 0 = some 0 ∧ (xowf k = RX7 → xhn k = []) := by
  have h := T.2 k hk
  unfold xme at h
  simp only [Bool.and_eq_true, decide_eq_true_eq] at h
  obtain ⟨⟨⟨⟨⟨⟨⟨h1, h2⟩, h3⟩, h4⟩, h5⟩, h6⟩, h7⟩, -⟩ := h
  exact ⟨xwd_in h1, h2, h3, h4, h5, h6, h7⟩
theorem xGood {k : Nat} (h : xcw k ∈ xTG) : GoodIn xTG (xws k) := by
  intro w hw
  rcases List.mem_cons.mp hw with rfl | hw
  · exact ⟨h, good_of_word (xTG_good _ h)⟩
  · exact ⟨hw, good_of_word (xTG_good _ hw)⟩
/-- what the law's walk says of n steps -/
def xP (n : Nat) : Prop := ∀ (d k i : Nat) (ls : xL) (st : List Value) (σ : xS) (r : xR) (σ' : xS), ax n d k i ls st σ = some (r, σ') →
  ∀ (B : Nat) (xv : Nat → Value) (scr : Nat × (Nat → Int32)) (D : va_G) (dA : Nat → ClassId) (n0 : Nat) (p : Program) (l : Launch) (e : Env) (R : Room) (s : State) (m : MethodId) (args : Array Value) (below : List Frame) (meth : Method) (c : Code) (Q : State → Prop),
  xCx B xv scr D dA n0 k d p l R s m args meth c → c.exceptionTable.toList = tableOf ((xhn k).map (·.1)) →
  ∀ (H : Heap) (LS : Array Slot) (locs : List Loc) (cells slots pc : Nat), xpc k i = some pc → xHR B xv D dA σ H → σ.2.2 = scr → xLV B xv LS ls (xmlf k) → va_S (xA0 B) s.heap H locs → cells + n0 = σ.2.1.1 →
  σ'.2.1.1 ≤ R.cells + n0 → slots + σ'.2.1.2 ≤ R.slots + σ.2.1.2 →
  (∀ (H' : Heap) (LS' : Array Slot) (locs' : List Loc) (cells' slots' i' pc' : Nat) (ins' : Instr) (aux' : List Int) (ls' : xL) (st' : List Value) (σf : xS), ft k i' = some (pc', ins', aux') → stp k i' ins' aux' ls' st' σf = some (.inr (.inr r)) → σ' = xbump r σf → xHR B xv D dA σf H' → σf.2.2 = scr → xLV B xv LS' ls' (xmlf k) → va_S (xA0 B) s.heap H' locs' →
    cells' + n0 = σf.2.1.1 → slots' + σ.2.1.2 = slots + σf.2.1.2 → W p l e R s m args below meth c H' locs' cells' slots' Q (F0 m pc' LS' (st'.map (xVal B xv)))) →
  W p l e R s m args below meth c H locs cells slots Q (F0 m pc LS (st.map (xVal B xv)))
/-- a method's contract, out of the run of its code -/
theorem xmet (T : xOKT) {n : Nat} (hP : xP n) {d k : Nat} (hk : k < 244) {as : List Value} {σ : xS} {r : xR} {σ' : xS} (hax : ax n d k 0 (xentry as (xmlf k)) [] σ = some (r, σ')) (hlen : (xargs as).length ≤ xmlf k) (hn9 : σ'.2.1.1 ≤ 1000000)
    {B : Nat} {xv : Nat → Value} {scr : Nat × (Nat → Int32)} {D : va_G} {dA : Nat → ClassId} {l : Launch} (hl : l.stackTraces = false) (hsc : σ.2.2 = scr) :
    vx_Met l (xynf k) (xws k) (xrm d (σ'.2.1.1 - σ.2.1.1) (σ'.2.1.2 - σ.2.1.2)) (xPc B xv scr D dA as σ) (xQr B xv D dA r σ') (xXr B xv D dA r σ') (σ'.2.1.1 - σ.2.1.1) (σ'.2.1.2 - σ.2.1.2) (xA0 B) := by
  obtain ⟨i1, i2, i3, i4, i5, i6, i7⟩ := xme_parts T hk
  obtain ⟨m1, m2, -⟩ := xmonoR _ _ _ _ _ _ _ _ _ hax
  have body : ∀ (p : Program) (e : Env) (s : State) (m : MethodId) (args : Array Value) (below : List Frame) (meth : Method) (c : Code) (s₁ : State), BodyLoose p l (xynf k) (headSpec (xws k) (xrm d (σ'.2.1.1 - σ.2.1.1) (σ'.2.1.2 - σ.2.1.2))) (xbyf k) (xmlf k) (xrtf k) e s m args below meth c s₁ → c.maxLocals = xmlf k →
      c.exceptionTable.toList = tableOf ((xhn k).map (·.1)) → xPc B xv scr D dA as σ args s →
      W p l e (headSpec (xws k) (xrm d (σ'.2.1.1 - σ.2.1.1) (σ'.2.1.2 - σ.2.1.2))).room s m args below meth c s.heap [] 0 0 (vx_MQ below (xQr B xv D dA r σ') (xXr B xv D dA r σ') args s (σ'.2.1.1 - σ.2.1.1) (σ'.2.1.2 - σ.2.1.2) (xA0 B)) (entryFrame m args (xmlf k)) := by
    intro p e s m args below meth c s₁ Bd hml htab hPc
    obtain ⟨rfl, hE, hK, hR⟩ := hPc
    have hts := atoms_spec (ws := xws k) Bd.pre
    have hown : s.vm.findClass (xynf k).cls = some m.cls := findClass_of_methodNamed Bd.named
    rw [i3] at hown
    have C : xCx B xv scr D dA σ.2.1.1 k d p l (headSpec (xws k) (xrm d (σ'.2.1.1 - σ.2.1.1) (σ'.2.1.2 - σ.2.1.2))).room s m (as.map (xVal B xv)).toArray meth c :=
      ⟨Bd.exec, Bd.bytes, hml, hown, fun w hw => hts w (List.mem_cons_of_mem _ hw), hK, hE, Bd.returns, Bd.notSynchronized, (name_of_methodNamed Bd.named Bd.method).1, hl, Nat.le_refl _, Nat.le_refl _, hR.1⟩
    rw [lg_entry_eq]
    refine hP d k 0 _ [] σ r σ' hax B xv scr D dA σ.2.1.1 p l e _ s m _ below meth c _ C htab s.heap _ [] 0 0 0 i6 hR hsc (xentry_LV hE.cat hlen) va_S.rf (by omega) (by show σ'.2.1.1 ≤ (σ'.2.1.1 - σ.2.1.1) + σ.2.1.1; omega) (by show 0 + σ'.2.1.2 ≤ (σ'.2.1.2 - σ.2.1.2) + σ.2.1.2; omega) ?_
    intro H' LS' locs' cells' slots' i' pc' ins' aux' ls' st' σf hft hst hbu hR' hsc' hL' hS' hc' hs'
    subst hbu
    refine xs_end C (fun h7 x hx => ?_) (T.1 k i' _ hft) hst hR' (fun a ha => ?_) hL' hS' hc' (by omega) ?_ (Nat.le_refl _) (Nat.le_refl _) (Nat.zero_le _)
    · rw [htab, i7 h7] at hx
      cases hx
    · subst ha
      have h1 : (xbump (.inr a) σf).2.1.1 = σf.2.1.1 + 1 := rfl
      omega
    · show slots' + (xbump r σf).2.1.2 = ((xbump r σf).2.1.2 - σ.2.1.2) + σf.2.1.2
      omega
  by_cases h0 : xhn k = []
  · refine vx_ofW (cc := xbyf k) (maxL := xmlf k) (ret := xrtf k) (ws' := xTG) i4 (by unfold xws xcw; rw [if_pos h0]) (fun p e s m args below meth c s₁ Bd hml ht hPc => body p e s m args below meth c s₁ Bd hml ?_ hPc)
    rw [h0]
    show c.exceptionTable.toList = []
    cases hc : c.exceptionTable.toList with
    | nil => rfl
    | cons x r => exact (ht x (by rw [hc]; exact List.mem_cons_self)).elim
  · refine vx_ofWH (cc := xbyf k) (maxL := xmlf k) (ret := xrtf k) (hh := (xhn k).map (·.1)) (ws' := xTG) i4 (by unfold xws xcw; rw [if_neg h0]) (fun p e s m args below meth c s₁ Bd hml hPc => body p e s m args below meth c s₁ Bd hml ?_ hPc)
    have hts := atoms_spec (ws := xws k) Bd.pre
    have hw := hts (xcw k) List.mem_cons_self
    unfold xcw at hw
    rw [if_neg h0] at hw
    exact vx_table (x := xynf k) Bd hw

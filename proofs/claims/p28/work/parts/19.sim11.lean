/-! ===== catches; the whole ===== -/
theorem xhd_parts (T : xOKT) {k i pc a i' loc : Nat} (hpc : xpc k i = some pc) (hh : xhd k i a = some (i', loc)) : ∃ (pre suf : List ((Nat × Nat × Nat × Nat) × Nat × Nat × Nat)) (h : (Nat × Nat × Nat × Nat) × Nat × Nat × Nat), xhn k = pre ++ h :: suf ∧ h.2.2 = (i', loc) ∧ h.2.1 = a ∧ (h.1.1 ≤ pc ∧ pc < h.1.2.1) ∧ (∀ z ∈ pre, ¬ (z.1.1 ≤ pc ∧ pc < z.1.2.1) ∨ z.2.1 ≠ a) := by
  unfold xhd at hh
  rw [hpc] at hh
  simp only [Option.map_eq_some_iff] at hh
  obtain ⟨h, hf, he⟩ := hh
  obtain ⟨hp, as, bs, heq, hno⟩ := List.find?_eq_some_iff_append.mp hf
  simp only [Bool.and_eq_true, decide_eq_true_eq] at hp
  refine ⟨as, bs, h, heq, he, hp.2, hp.1, fun z hz => ?_⟩
  have h1 := hno z hz
  simp only [Bool.not_eq_true', Bool.and_eq_false_imp, Bool.and_eq_true, decide_eq_true_eq, decide_eq_false_iff_not] at h1
  by_cases h2 : z.1.1 ≤ pc ∧ pc < z.1.2.1
  · exact Or.inr (h1 h2)
  · exact Or.inl h2
theorem xhn_parts (T : xOKT) {k : Nat} (hk : k < 244) {h : (Nat × Nat × Nat × Nat) × Nat × Nat × Nat} (hh : h ∈ xhn k) : h.2.1 < 4 ∧ h.1.2.2.2 ≠ 0 ∧ Jvm.Cond.classLink (xowf k) h.1.2.2.2 (xEX h.2.1) ∈ xTG ∧ h.2.2.2 < xmlf k ∧
    ∃ (n : Nat), ((decode (xbyf k) h.1.2.2.1 = .ok (.astore h.2.2.2, 2) ∧ n = 2) ∨ (∃ z : Fin 4, z.val = h.2.2.2 ∧ decode (xbyf k) h.1.2.2.1 = .ok (.astore_n z, 1) ∧ n = 1)) ∧ xpc k h.2.2.1 = some (h.1.2.2.1 + n) := by
  have h1 := T.2 k hk
  unfold xme at h1
  simp only [Bool.and_eq_true] at h1
  have h2 := h1.2
  have hne : xhn k ≠ [] := fun q => by rw [q] at hh; cases hh
  rw [if_neg hne] at h2
  simp only [Bool.and_eq_true] at h2
  have h3 := List.all_eq_true.mp h2.2 h hh
  simp only [Bool.and_eq_true, decide_eq_true_eq] at h3
  obtain ⟨⟨⟨g1, g2⟩, g3⟩, g4⟩ := h3
  refine ⟨g1, g2, xwd_in g3, ?_⟩
  split at g4
  · rename_i q hq
    have hq1 := List.find?_some hq
    have hqpc : q.1 = h.1.2.2.1 := of_decide_eq_true hq1
    simp only [Bool.and_eq_true, decide_eq_true_eq, Bool.or_eq_true] at g4
    obtain ⟨⟨g5, g6⟩, g7⟩ := g4
    have g6 := xdec_ok g6
    rw [hqpc] at g6
    refine ⟨g7, ?_⟩
    rcases g5 with ⟨g8, g9⟩ | g8
    · rw [g8] at g6
      rw [hqpc] at g9
      exact ⟨2, Or.inl ⟨g6, rfl⟩, g9⟩
    · split at g8
      · rename_i z hz
        simp only [Bool.and_eq_true, decide_eq_true_eq] at g8
        rw [hz] at g6
        rw [hqpc] at g8
        exact ⟨1, Or.inr ⟨z, g8.1, g6, rfl⟩, g8.2⟩
      · cases g8
  · cases g4
theorem xcast : ∀ a, a < 4 → Jvm.Cond.castable (xEX a) (xEX a) ∈ xNest := by
  have h : ∀ a, a < 4 → Jvm.Cond.castable (xEX a) (xEX a) ∈ lw_tbl := by decide +kernel
  exact fun a ha => List.mem_filter.mpr ⟨h a ha, rfl⟩
theorem xhdk {k i a : Nat} {q : Nat × Nat} (h : xhd k i a = some q) : k < 244 := by
  by_cases hk : k < 244
  · exact hk
  · exfalso
    have h0 : xhn k = [] := by
      have h1 : ∀ k, 244 ≤ k → xhn k = [] := by
        intro k hk
        unfold xhn
        split <;> first | rfl | omega
      exact h1 k (Nat.not_lt.mp hk)
    unfold xhd at h
    rw [h0] at h
    split at h <;> cases h
theorem xboundS {k i : Nat} {ins : Instr} {aux : List Int} {ls : xL} {st : List Value} {σ : xS} {i' : Nat} {ls' : xL} {st' : List Value} {σ' : xS} (h : stp k i ins aux ls st σ = some (.inl (i', ls', st', σ'))) (hb : σ.2.1.1 ≤ 1000000) : σ'.2.1.1 ≤ 1000000 := by
  have inv : ∀ {i : Nat} {aux : List Int}, xinv i aux ls st σ = some (.inl (i', ls', st', σ')) → σ'.2.1.1 ≤ 1000000 := by
    intro i aux h
    rcases xinv_inl h with rfl | ⟨a, e, rfl⟩ | ⟨e, n, h9, rfl⟩
    · exact hb
    · exact hb
    · show σ.2.1.1 + 1 ≤ 1000000
      omega
  cases ins <;> first | (cases h; done) | (exact inv (by simpa only [stp] using h)) | skip
  all_goals simp only [stp, xpush, xloadI, xloadL, xloadA, xstoreI, xstoreL, xstoreA, xII, xLL, xLI, xIf, xIc, xaldI, xaldB, xaldA, xastI, xastB, xastA, xget, xput, xalloc, xgo, xret, xinv, xcopy, xclone, xcall] at h
  all_goals (repeat' (split at h))
  all_goals first
    | (cases h; done)
    | (simp only [Option.some.injEq, Sum.inl.injEq, Prod.mk.injEq, reduceCtorEq, and_false, false_and] at h
       obtain ⟨-, -, -, rfl⟩ := h
       exact hb)
    | (simp only [Option.some.injEq, Sum.inl.injEq, Prod.mk.injEq, reduceCtorEq, and_false, false_and] at h
       obtain ⟨-, -, -, rfl⟩ := h
       show σ.2.1.1 + 1 ≤ 1000000
       omega)
    | (rename_i hcd
       simp only [Option.some.injEq, Sum.inl.injEq, Prod.mk.injEq, reduceCtorEq, and_false, false_and] at h
       obtain ⟨-, -, -, rfl⟩ := h
       obtain ⟨-, -, g1, -, g2⟩ := hcd
       show σ.2.1.1 + (1 + _) ≤ 1000000
       omega)
theorem xboundE {k i : Nat} {ins : Instr} {aux : List Int} {ls : xL} {st : List Value} {σ : xS} {a : Nat} (h : stp k i ins aux ls st σ = some (.inr (.inr (.inr a)))) : σ.2.1.1 < 900000 := by
  cases ins <;> first | (cases h; done) | (exact (xinv_end (by simpa only [stp] using h)).elim) | skip
  all_goals simp only [stp, xpush, xloadI, xloadL, xloadA, xstoreI, xstoreL, xstoreA, xII, xLL, xLI, xIf, xIc, xaldI, xaldB, xaldA, xastI, xastB, xastA, xget, xput, xalloc, xgo, xret, xinv, xcopy, xclone, xcall] at h
  all_goals (repeat' (split at h))
  all_goals first
    | (cases h; done)
    | (rename_i hcd
       exact hcd.2)
/-- no run of the small machine comes to more than a million of cells -/
theorem xbound : ∀ (n d k i : Nat) (ls : xL) (st : List Value) (σ : xS) (r : xR) (σ' : xS), ax n d k i ls st σ = some (r, σ') → σ.2.1.1 ≤ 1000000 → σ'.2.1.1 ≤ 1000000 := by
  intro n
  induction n with
  | zero => intro d k i ls st σ r σ' h; cases h
  | succ n ih =>
    intro d k i ls st σ r σ' h hb
    simp only [ax] at h
    split at h
    · cases h
    · split at h
      · cases h
      · rename_i hst
        exact ih _ _ _ _ _ _ _ _ h (xboundS hst hb)
      · split at h
        · cases h
        · split at h
          · cases h
          · rename_i h1
            exact ih _ _ _ _ _ _ _ _ h (ih _ _ _ _ _ _ _ _ h1 hb)
          · rename_i h1
            split at h
            · cases h
            · exact ih _ _ _ _ _ _ _ _ h (ih _ _ _ _ _ _ _ _ h1 hb)
      · cases h
        exact hb
      · rename_i hst
        have h9 := xboundE hst
        cases h
        show σ.2.1.1 + 1 ≤ 1000000
        omega
section XZA
variable {B : Nat} {xv : Nat → Value} {scr : Nat × (Nat → Int32)} {D : va_G} {dA : Nat → ClassId} {n0 k d : Nat} {p : Program} {l : Launch} {e : Env} {R : Room} {s : State} {m : MethodId} {args : Array Value} {below : List Frame} {meth : Method} {c : Code} {Q : State → Prop}
theorem xcatch (T : xOKT) (C : xCx B xv scr D dA n0 k d p l R s m args meth c) (htab : c.exceptionTable.toList = tableOf ((xhn k).map (·.1))) (hk : k < 244) {i pc a i' loc : Nat} {ls : xL} {H : Heap} {LS : Array Slot} {locs : List Loc} {cells slots : Nat} {rest : List Value} {q : Addr} {ce : Cell}
    (hpc : xpc k i = some pc) (hh : xhd k i a = some (i', loc)) (ha : a < 4) (hL : xLV B xv LS ls (xmlf k)) (hcell : H[q]? = some ce) (hv : ce.vm = .none) (hcl : s.vm.findClass (xEX a) = some ce.cls)
    (kk : ∀ (LS' : Array Slot) (pc' : Nat), xpc k i' = some pc' → xLV B xv LS' ((xkill ls loc).set loc none) (xmlf k) → W p l e R s m args below meth c H locs cells slots Q (F0 m pc' LS' [])) : vx_W p l e R s m args below meth c H locs cells slots Q (F0 m pc LS rest) q := by
  obtain ⟨hx, hb, hml, hown, hts, hK, hE, hr, hlocks, hname, hl, hRf, hRl, hB⟩ := C
  obtain ⟨pre, suf, h, heq, he2, hea, hcov, hno⟩ := xhd_parts T hpc hh
  have hmem : h ∈ xhn k := by rw [heq]; simp
  obtain ⟨g1, g2, g3, g4, n, g5, g6⟩ := xhn_parts T hk hmem
  have hi' : h.2.2.1 = i' := by rw [he2]
  have hloc : h.2.2.2 = loc := by rw [he2]
  have hsplit : c.exceptionTable.toList = tableOf (pre.map (·.1)) ++ (⟨h.1.1, h.1.2.1, h.1.2.2.1, h.1.2.2.2⟩ : ExceptionTableEntry) :: tableOf (suf.map (·.1)) := by
    rw [htab, heq]; simp [tableOf]
  refine vx_catch (name := xEX a) (E := xEX a) (ce := ce) hown _ _ _ hsplit (fun z hz => ?_) (by simp [covers, hcov.1, hcov.2]) g2 (by rw [← hea]; exact hts _ g3) (va_Nw.use rfl (hE.2.2.2.2.2.2.2.2.1 _ (xcast a ha))) hcell hv hcl ?_
  · obtain ⟨y, hy, hyz⟩ := List.mem_map.mp hz
    obtain ⟨w, hw, hwy⟩ := List.mem_map.mp hy
    have hwm : w ∈ xhn k := by rw [heq]; exact List.mem_append_left _ hw
    obtain ⟨f1, f2, f3, -⟩ := xhn_parts T hk hwm
    rw [← hyz, ← hwy]
    rcases hno w hw with h1 | h1
    · left
      simp only [covers, Bool.and_eq_false_imp, decide_eq_true_eq, decide_eq_false_iff_not]
      exact fun u v => h1 ⟨u, v⟩
    · right
      exact ⟨f2, xEX w.2.1, hts _ f3, hE.2.2.2.2.2.2.2.2.2.2.2.1 a w.2.1 ha f1 (fun q => h1 q.symm)⟩
  · rw [hloc] at g4 g5
    rw [hi'] at g6
    rcases g5 with ⟨hd, hn⟩ | ⟨z, hz, hd, hn⟩
    · subst hn
      exact lv_astore hx hb hd hL.1 g4 rfl (fun LS' h' => kk LS' _ g6 (xLV.kill hE.cat hL.2 h'))
    · subst hn
      exact lv_astore_n hx hb hd hz hL.1 g4 rfl (fun LS' h' => kk LS' _ g6 (xLV.kill hE.cat hL.2 h'))
theorem xsize9 {H : Heap} {locs : List Loc} {cells slots : Nat} {g : JFrame} {σ : xS} (C : xCx B xv scr D dA n0 k d p l R s m args meth c) (hc : cells + n0 = σ.2.1.1) (hR : xHR B xv D dA σ H)
    (kk : (∀ (n d k i : Nat) (ls : xL) (st : List Value) (r : xR) (σ' : xS), ax n d k i ls st σ = some (r, σ') → σ'.2.1.1 ≤ 1000000) → W p l e R s m args below meth c H locs cells slots Q g) : W p l e R s m args below meth c H locs cells slots Q g :=
  kk (fun n d k i ls st r σ' h => xbound n d k i ls st σ r σ' h hR.2.1)
theorem xsim (T : xOKT) : ∀ n, xP n := by
  intro n
  induction n with
  | zero => intro d k i ls st σ r σ' h; cases h
  | succ n ih =>
    intro d k i ls st σ r σ' h B xv scr D dA n0 p l e R s m args below meth c Q C htab H LS locs cells slots pc hpc hR hsc hL hS hc hrc hrs hend
    simp only [ax] at h
    split at h
    · cases h
    · rename_i q hq
      obtain ⟨pcq, ins, aux⟩ := q
      have hpq : pcq = pc := by
        have : xpc k i = some pcq := by unfold xpc; rw [hq]; rfl
        exact Option.some.inj (this.symm.trans hpc)
      subst hpq
      have hrow := T.1 k i _ hq
      split at h
      · cases h
      · rename_i i1 ls1 st1 σ1 hst
        obtain ⟨m1, m2, m3⟩ := xmono hst
        obtain ⟨b1, b2, b3⟩ := xmonoR _ _ _ _ _ _ _ _ _ h
        refine xs_all ins C i pcq aux ls st σ i1 ls1 st1 σ1 H LS locs cells slots hrow hst hR hsc hL hS hc (by omega) (by omega) ?_
        intro H' LS' locs' cells' slots' pc' hR' hsc' hL' hS' hpc' hc' hs'
        exact ih d k i1 ls1 st1 σ1 r σ' h B xv scr D dA n0 p l e R s m args below meth c Q C htab H' LS' locs' cells' slots' pc' hpc' hR' hsc' hL' hS' hc' hrc (by omega)
          (fun H2 LS2 locs2 cells2 slots2 i2 pc2 ins2 aux2 ls2 st2 σf g1 g2 g3 g4 g5 g6 g7 g8 g9 => hend H2 LS2 locs2 cells2 slots2 i2 pc2 ins2 aux2 ls2 st2 σf g1 g2 g3 g4 g5 g6 g7 g8 (by omega))
      · rename_i k' as rest hst
        cases d with
        | zero => cases h
        | succ d' =>
          simp only at h
          split at h
          · cases h
          · rename_i v σ1 hcall
            obtain ⟨m1, m2, m3⟩ := xmonoR _ _ _ _ _ _ _ _ _ hcall
            obtain ⟨b1, b2, b3⟩ := xmonoR _ _ _ _ _ _ _ _ _ h
            have hl := C.2.2.2.2.2.2.2.2.2.2.1
            have hB := C.2.2.2.2.2.2.2.2.2.2.2.2.2
            refine xsize9 C hc hR ?_
            intro hn9
            obtain ⟨hk', hpc', hrun⟩ := xrun T (cells := cells) (slots := slots) (mc := σ1.2.1.1 - σ.2.1.1) (ms := σ1.2.1.2 - σ.2.1.2) C hrow hst hR hL hS (by omega) (by omega)
              (fun hk' hlen => xmet T ih hk' hcall hlen (hn9 _ _ _ _ _ _ _ _ hcall) hl hsc)
            intro T0 hT0 X0
            rcases hrun T0 hT0 X0 with ⟨v0, st₀, t, T', L, e0, X', hLf, e1, e2, ⟨⟨v1, hv1, ho⟩, hHR, hF⟩, st'⟩ | ⟨q, st₀, t, T', L, E, ce, e0, X', hLf, e1, e2, ⟨⟨a, hra, -⟩, -⟩, -⟩
            · cases hv1
              have hv0 : v0 = v.map (xVal B xv) := Outcome.returned.inj ho
              have hsz := hHR.1
              have hS1 : va_S (xA0 B) s.heap T'.heap (locs ++ L) := by
                refine ⟨Nat.le_trans hS.1 (by rw [e1, ← e0]; exact hF.1), fun q hq hqa => ?_, fun z hz => ?_⟩
                · rw [e1, hF.2 q (by rw [e0]; exact Nat.lt_of_lt_of_le hq hS.1) hqa, e0]
                  exact hS.2.1 q hq hqa
                · rcases List.mem_append.mp hz with hz | hz
                  · exact hS.2.2 z hz
                  · exact hLf z hz
              have K := ih (d' + 1) k (i + 1) ls (v.toList ++ rest) σ1 r σ' h B xv scr D dA n0 p l e R s m args below meth c Q C htab T'.heap LS (locs ++ L) (cells + (σ1.2.1.1 - σ.2.1.1)) (slots + (σ1.2.1.2 - σ.2.1.2)) (pcq + 3) hpc' (by rw [e1]; exact hHR) (m3.trans hsc) hL hS1 (by omega) hrc (by omega)
                (fun H2 LS2 locs2 cells2 slots2 i2 pc2 ins2 aux2 ls2 st2 σf g1 g2 g3 g4 g5 g6 g7 g8 g9 => hend H2 LS2 locs2 cells2 slots2 i2 pc2 ins2 aux2 ls2 st2 σf g1 g2 g3 g4 g5 g6 g7 g8 (by omega))
              obtain ⟨t2, a1, a2⟩ := K T' rfl X'
              refine ⟨t2, st' t2 ?_, a2⟩
              have hstk : (v.toList ++ rest).map (xVal B xv) = v0.toList ++ rest.map (xVal B xv) := by rw [hv0]; cases v <;> simp
              rw [hstk] at a1
              exact a1
            · cases hra
          · rename_i a σ1 hcall
            obtain ⟨m1, m2, m3⟩ := xmonoR _ _ _ _ _ _ _ _ _ hcall
            split at h
            · cases h
            · rename_i hd9 hhd
              obtain ⟨b1, b2, b3⟩ := xmonoR _ _ _ _ _ _ _ _ _ h
              have hl := C.2.2.2.2.2.2.2.2.2.2.1
              refine xsize9 C hc hR ?_
              intro hn9
              obtain ⟨hk', hpc', hrun⟩ := xrun T (cells := cells) (slots := slots) (mc := σ1.2.1.1 - σ.2.1.1) (ms := σ1.2.1.2 - σ.2.1.2) C hrow hst hR hL hS (by omega) (by omega)
                (fun hk' hlen => xmet T ih hk' hcall hlen (hn9 _ _ _ _ _ _ _ _ hcall) hl hsc)
              intro T0 hT0 X0
              rcases hrun T0 hT0 X0 with ⟨v0, st₀, t, T', L, e0, X', hLf, e1, e2, ⟨⟨v1, hv1, ho⟩, -⟩, -⟩ | ⟨q, st₀, t, T', L, E, ce, e0, X', hLf, e1, e2, ⟨⟨a1, hra, ha4, hEa⟩, hHR, hF⟩, hce, hcv, hcl, st'⟩
              · cases hv1
              · cases hra
                have hS1 : va_S (xA0 B) s.heap T'.heap (locs ++ L) := by
                  refine ⟨Nat.le_trans hS.1 (by rw [e1, ← e0]; exact hF.1), fun q hq hqa => ?_, fun z hz => ?_⟩
                  · rw [e1, hF.2 q (by rw [e0]; exact Nat.lt_of_lt_of_le hq hS.1) hqa, e0]
                    exact hS.2.1 q hq hqa
                  · rcases List.mem_append.mp hz with hz | hz
                    · exact hS.2.2 z hz
                    · exact hLf z hz
                rw [hEa] at hcl
                have hk4 : k < 244 := xhdk hhd
                have K := xcatch (e := e) (below := below) (Q := Q) (rest := rest.map (xVal B xv)) (locs := locs ++ L) (cells := cells + (σ1.2.1.1 - σ.2.1.1)) (slots := slots + (σ1.2.1.2 - σ.2.1.2)) (i' := hd9.1) (loc := hd9.2) T C htab hk4 hpc hhd ha4 hL (by rw [e1]; exact hce) hcv hcl (fun LS' pc' hp' hL' =>
                  ih (d' + 1) k hd9.1 _ [] σ1 r σ' h B xv scr D dA n0 p l e R s m args below meth c Q C htab T'.heap LS' (locs ++ L) (cells + (σ1.2.1.1 - σ.2.1.1)) (slots + (σ1.2.1.2 - σ.2.1.2)) pc' hp' (by rw [e1]; exact hHR) (m3.trans hsc) hL' hS1 (by omega) hrc (by omega)
                    (fun H2 LS2 locs2 cells2 slots2 i2 pc2 ins2 aux2 ls2 st2 σf g1 g2 g3 g4 g5 g6 g7 g8 g9 => hend H2 LS2 locs2 cells2 slots2 i2 pc2 ins2 aux2 ls2 st2 σf g1 g2 g3 g4 g5 g6 g7 g8 (by omega)))
                obtain ⟨t2, a1, a2⟩ := K T' rfl X'
                exact ⟨t2, st'.trans a1, a2⟩
      · rename_i v hst
        cases h
        exact hend H LS locs cells slots i pcq ins aux ls st σ hq hst rfl hR hsc hL hS hc rfl
      · rename_i a hst
        cases h
        exact hend H LS locs cells slots i pcq ins aux ls st σ hq hst rfl hR hsc hL hS hc rfl
end XZA

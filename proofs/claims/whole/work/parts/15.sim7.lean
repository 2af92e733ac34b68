/-! ===== steps: rows of rows, switches, the JDK's own members ===== -/
section XX
variable {B : Nat} {xv : Nat → Value} {scr : Nat × (Nat → Int32)} {D : va_G} {dA : Nat → ClassId} {n0 k d : Nat} {p : Program} {l : Launch} {e : Env} {R : Room} {s : State} {m : MethodId} {args : Array Value} {below : List Frame} {meth : Method} {c : Code} {Q : State → Prop}
theorem xcall_no {k' na kind : Nat} {st : List Value} {σ σ' : xS} {i' : Nat} {ls' : xL} {st' : List Value} : ¬ xcall k' na kind st σ = some (.inl (i', ls', st', σ')) := by
  intro hst
  unfold xcall at hst
  split at hst
  · split at hst
    · cases hst
    · split at hst
      · split at hst
        · split at hst <;> cases hst
        · cases hst
      · cases hst
  · cases hst
theorem xouter (cc : ClassId) (N h0 : Nat) : ∀ i : Nat, Jvm.Free.Multi.outerC cc N h0 i = arrV cc N (fun j => va_rf (if j < i then some (h0 + 1 + j) else none))
  | 0 => by
    show ({ cls := cc, slots := Array.replicate N .null, vm := .none } : Cell) = _
    rw [arrV_new]
    refine congrArg (arrV cc N) (funext fun j => ?_)
    simp [va_rf]
  | i + 1 => by
    show (Jvm.Free.Multi.outerC cc N h0 i).setSlot i (.ref (h0 + 1 + i)) = _
    rw [xouter cc N h0 i, arrV_store]
    refine congrArg (arrV cc N) (funext fun j => ?_)
    by_cases e : j = i
    · subst e
      simp [updV, va_rf]
    · by_cases h : j < i
      · simp [updV, e, h, Nat.lt_succ_of_lt h]
      · simp [updV, e, h, show ¬ j < i + 1 by omega]
theorem xs_multi {ix n2 : Nat} : xOKc B xv scr D dA n0 k d p l e R s m args below meth c Q (.multianewarray ix n2) := by
  intro C i pc aux ls st σ i' ls' st' σ' H LS locs cells slots hrow hst hR hsc hL hS hc hrc hrs kk
  obtain ⟨hdg, hck, hj⟩ := xrow_parts hrow (fun _ _ _ _ h => by cases h)
  have hpc := xnx hj
  obtain ⟨hx, hb, hml, hown, hts, hK, hE, hr, hlocks, hname, hl, hRf, hRl, hB⟩ := C
  simp only [stp] at hst
  split at hst
  · rename_i kk0 n r
    split at hst
    · rename_i hcond
      obtain ⟨hn, hk, hn100, hk9, hn9⟩ := hcond
      simp only [xgo, Option.some.injEq, Sum.inl.injEq, Prod.mk.injEq] at hst
      obtain ⟨rfl, rfl, rfl, rfl⟩ := hst
      simp only [List.map_cons]
      simp only [xck] at hck
      split at hck
      · simp only [Bool.and_eq_true, decide_eq_true_eq] at hck
        obtain ⟨h2, hw⟩ := hck
        subst h2
        have hrc' : cells + (σ.2.1.1 + (1 + n.toNatClampNeg)) ≤ R.cells + σ.2.1.1 := hrc
        have hrs' : slots + (σ.2.1.2 + (n.toNatClampNeg + n.toNatClampNeg * kk0.toNatClampNeg)) ≤ R.slots + σ.2.1.2 := hrs
        intro T hT Xs
        have hcd : componentBytes FieldType.int = 4 := rfl
        obtain ⟨vm₁, cA, comp, -, fA, fC, -, -, X', step⟩ := Xs.multianewarray2F hx (own := xowf k) (index := ix) (ty := .int) hown (hts _ (xwd_in hw)) (hE.2.2.2.2.2.2.2.2.2.2.1) (hts _ (xwd_in (j := 174) (by decide +kernel)))
          (g := F0 m pc LS (.int kk0 :: .int n :: r.map (xVal B xv))) rfl (by rw [hb]; exact hdg) rfl hn hk (by omega) (by rw [hcd]; omega) (by omega) (by decide) (by decide) (by omega) (by omega)
        have hR5 := (hK.2 5 _ rfl).2
        have hR0 := (hK.2 0 _ rfl).2
        have hcA : cA = dA 5 := Option.some.inj (fA.symm.trans hR5)
        have hcC : comp = dA 0 := Option.some.inj (fC.symm.trans hR0)
        subst hcA
        subst hcC
        generalize hF : Jvm.Free.Multi.fill (T.setVm vm₁) (dA 5) (dA 0) n.toNatClampNeg kk0.toNatClampNeg (defaultValue .int) n.toNatClampNeg = F at X' step
        have hTh : (T.setVm vm₁).heap = H := hT
        obtain ⟨f1, f2, -, -⟩ := Jvm.Free.Multi.fill_facts (T.setVm vm₁) (dA 5) (dA 0) n.toNatClampNeg kk0.toNatClampNeg (defaultValue .int) n.toNatClampNeg
        rw [hF, hTh] at f1 f2
        rw [xouter] at f2
        have hold : ∀ x : Nat, x < H.size → F.heap[x]? = H[x]? := fun x hx => by
          have := Jvm.Free.Multi.fill_old (T.setVm vm₁) (dA 5) (dA 0) n.toNatClampNeg kk0.toNatClampNeg (defaultValue .int) (a := x) (by rw [hTh]; exact hx) n.toNatClampNeg
          rw [hF, hTh] at this
          exact this
        have hrow2 : ∀ j : Nat, j < n.toNatClampNeg → F.heap[H.size + 1 + j]? = some (vp_cell (dA 0) (kk0.toNatClampNeg, .inl (fun _ => 0))) := fun j hj => by
          have := Jvm.Free.Multi.fill_inner (T.setVm vm₁) (dA 5) (dA 0) n.toNatClampNeg kk0.toNatClampNeg (defaultValue .int) n.toNatClampNeg j hj
          rw [hF, hTh] at this
          exact this.trans (congrArg some (arrV_new _ _ _))
        have h1 := hR.1
        have HR : xHR B xv D dA (xnew2 σ n.toNatClampNeg kk0.toNatClampNeg) F.heap := by
          refine ⟨by show F.heap.size = B + (σ.2.1.1 + (1 + n.toNatClampNeg)); omega, by show σ.2.1.1 + (1 + n.toNatClampNeg) ≤ 1000000; omega, fun a e1 ha => ?_⟩
          have ha' : (if a = σ.2.1.1 then some (Sum.inl (5, (n.toNatClampNeg, .inr (.inr (.inr (.inr (fun i => if i < n.toNatClampNeg then some (σ.2.1.1 + 1 + i) else none))))))) else if σ.2.1.1 + 1 ≤ a ∧ a < σ.2.1.1 + 1 + n.toNatClampNeg then some (Sum.inl (0, (kk0.toNatClampNeg, .inl (fun _ => 0)))) else σ.1 a) = some e1 := ha
          split at ha'
          · rename_i hq
            cases ha'
            refine ⟨by show a < σ.2.1.1 + (1 + n.toNatClampNeg); omega, ?_⟩
            show F.heap[B + a]? = some (vp_cell (dA 5) (n.toNatClampNeg, .inr (.inr (.inr (.inr (fun j => (if j < n.toNatClampNeg then some (σ.2.1.1 + 1 + j) else none).map (fun a => B + a)))))))
            rw [hq, ← h1, f2, vp_cell_q]
            refine congrArg some (congrArg (arrV _ _) (funext fun j => ?_))
            split
            · simp only [Option.map_some, va_rf]
              rw [h1]
              exact congrArg Value.ref (show B + σ.2.1.1 + 1 + j = B + (σ.2.1.1 + 1 + j) from by omega)
            · rfl
          · split at ha'
            · rename_i hq
              cases ha'
              refine ⟨by show a < σ.2.1.1 + (1 + n.toNatClampNeg); omega, ?_⟩
              show F.heap[B + a]? = some (vp_cell (dA 0) (kk0.toNatClampNeg, .inl (fun _ => 0)))
              rw [show B + a = H.size + 1 + (a - σ.2.1.1 - 1) by omega]
              exact hrow2 _ (by omega)
            · obtain ⟨g1, g2⟩ := hR.2.2 a e1 ha'
              exact ⟨by show a < σ.2.1.1 + (1 + n.toNatClampNeg); omega, g2.kept (hold _ (by omega))⟩
        have K := kk F.heap LS locs (cells + (1 + n.toNatClampNeg)) (slots + (n.toNatClampNeg + n.toNatClampNeg * kk0.toNatClampNeg)) _ HR hsc hL (xS_push hS (by omega) hold) hpc (by show cells + (1 + n.toNatClampNeg) + n0 = σ.2.1.1 + (1 + n.toNatClampNeg); omega) (by show slots + (n.toNatClampNeg + n.toNatClampNeg * kk0.toNatClampNeg) + σ.2.1.2 = slots + (σ.2.1.2 + (n.toNatClampNeg + n.toNatClampNeg * kk0.toNatClampNeg)); omega)
        simp only [List.map_cons] at K
        rw [xVal_in (by omega), ← hR.1, ← hTh] at K
        rw [← Nat.add_assoc cells, ← Nat.add_assoc slots] at K
        obtain ⟨t, a1, b1⟩ := K F rfl X'
        exact ⟨t, step _ a1, b1⟩
      · cases hck
    · cases hst
  · cases hst
theorem xs_switch {df lo hi : Int} {offs : Array Int} : xOKc B xv scr D dA n0 k d p l e R s m args below meth c Q (.tableswitch df lo hi offs) := by
  intro C i pc aux ls st σ i' ls' st' σ' H LS locs cells slots hrow hst hR hsc hL hS hc hrc hrs kk
  obtain ⟨hx, hb, hml, hown, hts, hK, hE, hr, hlocks, hname, hl, hRf, hRl, hB⟩ := C
  unfold xrow at hrow
  simp only [Bool.and_eq_true] at hrow
  obtain ⟨⟨h1, -⟩, h3⟩ := hrow
  obtain ⟨len, hdg⟩ : ∃ len, decode (xbyf k) pc = .ok (.tableswitch df lo hi offs, len) := by
    split at h1
    · rename_i j len hd
      exact ⟨len, by rw [hd, of_decide_eq_true h1]⟩
    · cases h1
  simp only [xjp, Bool.and_eq_true, decide_eq_true_eq] at h3
  obtain ⟨⟨⟨⟨hd0, hlen⟩, hsz⟩, hlohi⟩, hall⟩ := h3
  simp only [stp] at hst
  split at hst
  · rename_i x r
    simp only [List.map_cons]
    split at hst
    · rename_i hout
      simp only [xgo, Option.some.injEq, Sum.inl.injEq, Prod.mk.injEq] at hst
      obtain ⟨rfl, rfl, rfl, rfl⟩ := hst
      split at hd0
      · rename_i t ht
        exact lv_tableOut hx hb hdg hout (of_decide_eq_true hd0) (kk H LS locs cells slots _ hR hsc hL hS ht hc rfl)
      · cases hd0
    · rename_i hin
      split at hst
      · rename_i t ht
        simp only [xgo, Option.some.injEq, Sum.inl.injEq, Prod.mk.injEq] at hst
        obtain ⟨rfl, rfl, rfl, rfl⟩ := hst
        have hn1 : ¬ x.toInt < lo := fun q => hin (Or.inl q)
        have hn2 : ¬ hi < x.toInt := fun q => hin (Or.inr q)
        have hjlt : (x.toInt - lo).toNat < offs.size := by
          have := (List.getElem?_eq_some_iff.mp ht).1
          omega
        have hq := List.all_eq_true.mp hall (x.toInt - lo).toNat (List.mem_range.mpr hjlt)
        simp only [ht] at hq
        split at hq
        · rename_i t2 off ht2 hoff
          cases ht2
          split at hq
          · rename_i tp htp
            exact lv_tableIn hx hb hdg hn1 hn2 hoff (of_decide_eq_true hq) (kk H LS locs cells slots _ hR hsc hL hS htp hc rfl)
          · cases hq
        · cases hq
      · cases hst
  · cases hst
/-- Object.<init>, arraycopy, Math: what is not a call of the table's methods -/
theorem xs_spec {ix : Nat} : xOKc B xv scr D dA n0 k d p l e R s m args below meth c Q (.invokespecial ix) := by
  intro C i pc aux ls st σ i' ls' st' σ' H LS locs cells slots hrow hst hR hsc hL hS hc hrc hrs kk
  obtain ⟨hdg, hck, hj⟩ := xrow_parts hrow (fun _ _ _ _ h => by cases h)
  have hpc := xnx hj
  obtain ⟨hx, hb, hml, hown, hts, hK, hE, hr, hlocks, hname, hl, hRf, hRl, hB⟩ := C
  simp only [stp] at hst
  unfold xinv at hst
  split at hst
  · rename_i k' na kind pl
    simp only [xck] at hck
    split at hst
    · rename_i h20
      rw [if_pos h20] at hck
      split at hst
      · rename_i a r
        split at hst
        · rename_i hcat
          simp only [xgo, Option.some.injEq, Sum.inl.injEq, Prod.mk.injEq] at hst
          obtain ⟨rfl, rfl, rfl, rfl⟩ := hst
          have K := kk H LS locs cells slots _ hR hsc hL hS hpc hc rfl
          have hsum := xcat_map (B := B) hE.cat r
          simp only [List.map_cons]
          have hLn : LS.size = c.maxLocals := by rw [hml]; exact hL.1.1
          rw [xVal_in hcat.1]
          have hc8 := hcat.2
          exact W.objInit hx hb hown (hts _ (xwd_in hck)) (hts _ (xwd_in (j := 115) (by decide +kernel))) (hts _ (xwd_in (j := 116) (by decide +kernel))) rfl hLn rfl hdg (by omega) (by show 2 * 0 + _ + 12 ≤ _; omega) K
        · cases hst
      · cases hst
    · rename_i h20
      rw [if_neg h20] at hck
      split at hck
      · rename_i h6
        simp only [Bool.and_eq_true, decide_eq_true_eq] at hck
        obtain ⟨⟨⟨hk25, -⟩, -⟩, -⟩ := hck
        rw [if_neg (by omega), if_neg (by omega), if_neg (by omega), if_neg (by omega), if_neg (by omega), if_pos h6] at hst
        exact absurd hst xcall_no
      · have h23 := of_decide_eq_true hck
        subst h23
        simp at hst
  · cases hst
theorem xs_static {ix : Nat} : xOKc B xv scr D dA n0 k d p l e R s m args below meth c Q (.invokestatic ix) := by
  intro C i pc aux ls st σ i' ls' st' σ' H LS locs cells slots hrow hst hR hsc hL hS hc hrc hrs kk
  obtain ⟨hdg, hck, hj⟩ := xrow_parts hrow (fun _ _ _ _ h => by cases h)
  have hpc := xnx hj
  obtain ⟨hx, hb, hml, hown, hts, hK, hE, hr, hlocks, hname, hl, hRf, hRl, hB⟩ := C
  have hLn : c.maxLocals = LS.size := by rw [hml]; exact hL.1.1.symm
  have iM := hts _ (xwd_in (w := .initialized "java/lang/Math") (j := 99) (by decide +kernel))
  simp only [stp] at hst
  unfold xinv at hst
  split at hst
  · rename_i k' na kind pl
    simp only [xck] at hck
    split at hst
    · rename_i h20
      subst h20
      simp at hck
    · split at hst
      · rename_i h21
        rw [if_pos h21] at hck
        unfold xcopy at hst
        split at hst
        · rename_i n dp a sp b r
          split at hst
          · rename_i hab
            split at hst
            · rename_i t0 n0' f t1 n1 g hh0 hh1
              split at hst
              · rename_i hcond
                obtain ⟨ht0, ht1, h1, h2, h3, h4, h5, h6⟩ := hcond
                simp only [xgo, Option.some.injEq, Sum.inl.injEq, Prod.mk.injEq] at hst
                obtain ⟨rfl, rfl, rfl, rfl⟩ := hst
                subst ht0
                subst ht1
                simp only [List.map_cons]
                obtain ⟨-, q0, hq0⟩ := hR.arr hh0
                obtain ⟨-, q1, hq1⟩ := hR.arr hh1
                rw [xVal_in hab.1, xVal_in hab.2]
                have hsum := xcat_map (B := B) hE.cat r
                have hnf : nativeFrameWords "java/lang/System" "arraycopy" 5 + 11 ≤ 60 := by decide +kernel
                exact va_copyi hx hb hLn hown (hts _ (xwd_in hck)) (hts _ (xwd_in (j := 512) (by decide +kernel))) (hts _ (xwd_in (j := 511) (by decide +kernel))) (hts _ (xwd_in (j := 105) (by decide +kernel)))
                  hK (xW_P hR) xW_D (xS_self hS) q0 q1 0 0 hq0 hq1 rfl rfl rfl h1 h2 h3 h4 h5 (fun _ _ => rfl) (by omega) (by omega) hdg (xset_go (e0 := .inl (0, (n1, .inl g))) hB hR hsc hL hS hc hq1 (hR.2.2 a _ hh1).1 hpc kk)
              · cases hst
            · cases hst
          · cases hst
        · cases hst
      · rename_i h21
        rw [if_neg h21] at hck
        split at hst
        · rename_i h24
          rw [if_pos h24] at hck
          split at hst
          · rename_i y x r
            split at hst
            · rename_i hcat
              simp only [xgo, Option.some.injEq, Sum.inl.injEq, Prod.mk.injEq] at hst
              obtain ⟨rfl, rfl, rfl, rfl⟩ := hst
              have hsum := xcat_map (B := B) hE.cat r
              exact va_mmax hx hb hLn hown (hts _ (xwd_in hck)) (hts _ (xwd_in (j := 470) (by decide +kernel))) iM (hts _ (xwd_in (j := 471) (by decide +kernel))) (by omega) (by omega) (by omega) (by omega) hdg (kk H LS locs cells slots _ hR hsc hL hS hpc hc rfl)
            · cases hst
          · cases hst
        · rename_i h24
          rw [if_neg h24] at hck
          split at hst
          · rename_i h25
            rw [if_pos h25] at hck
            split at hst
            · rename_i y x r
              split at hst
              · rename_i hcat
                simp only [xgo, Option.some.injEq, Sum.inl.injEq, Prod.mk.injEq] at hst
                obtain ⟨rfl, rfl, rfl, rfl⟩ := hst
                have hsum := xcat_map (B := B) hE.cat r
                exact va_mmin hx hb hLn hown (hts _ (xwd_in hck)) (hts _ (xwd_in (j := 467) (by decide +kernel))) iM (hts _ (xwd_in (j := 468) (by decide +kernel))) (by omega) (by omega) (by omega) (by omega) hdg (kk H LS locs cells slots _ hR hsc hL hS hpc hc rfl)
              · cases hst
            · cases hst
          · rename_i h25
            rw [if_neg h25] at hck
            split at hst
            · rename_i h26
              rw [if_pos h26] at hck
              split at hst
              · rename_i y x r
                split at hst
                · rename_i hcat
                  simp only [xgo, Option.some.injEq, Sum.inl.injEq, Prod.mk.injEq] at hst
                  obtain ⟨rfl, rfl, rfl, rfl⟩ := hst
                  have hsum := xcat_map (B := B) hE.cat r
                  exact va_mmax_long hx hb hLn hown (hts _ (xwd_in hck)) (hts _ (xwd_in (j := 464) (by decide +kernel))) iM (hts _ (xwd_in (j := 465) (by decide +kernel))) (by omega) (by omega) (by omega) (by omega) hdg (kk H LS locs cells slots _ hR hsc hL hS hpc hc rfl)
                · cases hst
              · cases hst
            · rename_i h26
              rw [if_neg h26] at hck
              split at hst
              · rename_i h27
                rw [if_pos h27] at hck
                split at hst
                · rename_i y x r
                  split at hst
                  · rename_i hcat
                    simp only [xgo, Option.some.injEq, Sum.inl.injEq, Prod.mk.injEq] at hst
                    obtain ⟨rfl, rfl, rfl, rfl⟩ := hst
                    have hsum := xcat_map (B := B) hE.cat r
                    exact va_mmin_long hx hb hLn hown (hts _ (xwd_in hck)) (hts _ (xwd_in (j := 461) (by decide +kernel))) iM (hts _ (xwd_in (j := 462) (by decide +kernel))) (by omega) (by omega) (by omega) (by omega) hdg (kk H LS locs cells slots _ hR hsc hL hS hpc hc rfl)
                  · cases hst
                · cases hst
              · split at hst
                · exact absurd hst xcall_no
                · cases hst
  · cases hst
theorem xs_virtual {ix : Nat} : xOKc B xv scr D dA n0 k d p l e R s m args below meth c Q (.invokevirtual ix) := by
  intro C i pc aux ls st σ i' ls' st' σ' H LS locs cells slots hrow hst hR hsc hL hS hc hrc hrs kk
  obtain ⟨hdg, hck, hj⟩ := xrow_parts hrow (fun _ _ _ _ h => by cases h)
  simp only [stp] at hst
  unfold xinv at hst
  split at hst
  · rename_i k' na kind pl
    simp only [xck] at hck
    split at hck
    · rename_i h22
      subst h22
      simp at hst
    · split at hck
      · rename_i h6
        simp only [Bool.and_eq_true, decide_eq_true_eq] at hck
        obtain ⟨⟨⟨hk, -⟩, -⟩, -⟩ := hck
        rw [if_neg (by omega), if_neg (by omega), if_neg (by omega), if_neg (by omega), if_neg (by omega), if_neg (by omega), if_pos h6] at hst
        exact absurd hst xcall_no
      · have h99 := of_decide_eq_true hck
        subst h99
        simp at hst
  · cases hst
end XX

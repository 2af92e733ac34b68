/-! ===== steps: constants, statics, arrays ===== -/
section XV
variable {B : Nat} {xv : Nat → Value} {scr : Nat × (Nat → Int32)} {D : va_G} {dA : Nat → ClassId} {n0 k d : Nat} {p : Program} {l : Launch} {e : Env} {R : Room} {s : State} {m : MethodId} {args : Array Value} {below : List Frame} {meth : Method} {c : Code} {Q : State → Prop}
theorem xs_ldc {ix : Nat} : xOKc B xv scr D dA n0 k d p l e R s m args below meth c Q (.ldc ix) := by
  intro C i pc aux ls st σ i' ls' st' σ' H LS locs cells slots hrow hst hR hsc hL hS hc hrc hrs kk
  obtain ⟨hx, hb, hml, hown, hts, hK, hE, hr, hlocks, hname, hl, hRf, hRl, hB⟩ := C
  obtain ⟨hdg, hck, hj⟩ := xrow_parts hrow (fun _ _ _ _ h => by cases h)
  have hpc := xnx hj
  simp only [stp] at hst
  split at hst
  · rename_i t v pl
    simp only [xck] at hck
    split at hst
    · rename_i ht
      rw [if_pos ht] at hck
      simp only [xpush, Option.some.injEq, Sum.inl.injEq, Prod.mk.injEq] at hst
      obtain ⟨rfl, rfl, rfl, rfl⟩ := hst
      exact lv_ldc hx hb hown (hts _ (xwd_in hck)) hdg (kk H LS locs cells slots _ hR hsc hL hS hpc hc rfl)
    · rename_i ht
      rw [if_neg ht] at hck
      simp only [xpush, Option.some.injEq, Sum.inl.injEq, Prod.mk.injEq] at hst
      obtain ⟨rfl, rfl, rfl, rfl⟩ := hst
      simp only [Bool.and_eq_true, decide_eq_true_eq] at hck
      obtain ⟨adK, adV, had, hvk, hvr⟩ := hE.2.2.2.2.2.1
      have K := kk H LS locs cells slots _ hR hsc hL hS hpc hc rfl
      simp only [List.map_cons] at K
      have hxa : xVal B xv (.ref (1000100 + v.toNat)) = .ref (adK v.toNat) := by
        exact (xVal_str (i := 100 + v.toNat) (by omega)).trans (had _ hck.2).1
      rw [hxa] at K
      exact va_ldcS hx hb hown (hvr _ hck.1) hdg K
  · cases hst
theorem xs_ldcw {ix : Nat} : xOKc B xv scr D dA n0 k d p l e R s m args below meth c Q (.ldc_w ix) := by
  intro C i pc aux ls st σ i' ls' st' σ' H LS locs cells slots hrow hst hR hsc hL hS hc hrc hrs kk
  obtain ⟨hx, hb, hml, hown, hts, hK, hE, hr, hlocks, hname, hl, hRf, hRl, hB⟩ := C
  obtain ⟨hdg, hck, hj⟩ := xrow_parts hrow (fun _ _ _ _ h => by cases h)
  have hpc := xnx hj
  simp only [stp] at hst
  split at hst
  · rename_i t v pl
    simp only [xck] at hck
    split at hst
    · rename_i ht
      rw [if_pos ht] at hck
      simp only [xpush, Option.some.injEq, Sum.inl.injEq, Prod.mk.injEq] at hst
      obtain ⟨rfl, rfl, rfl, rfl⟩ := hst
      exact lv_ldcw hx hb hown (hts _ (xwd_in hck)) hdg (kk H LS locs cells slots _ hR hsc hL hS hpc hc rfl)
    · rename_i ht
      rw [if_neg ht] at hck
      cases hck
  · cases hst
theorem xs_ldc2 {ix : Nat} : xOKc B xv scr D dA n0 k d p l e R s m args below meth c Q (.ldc2_w ix) := by
  intro C i pc aux ls st σ i' ls' st' σ' H LS locs cells slots hrow hst hR hsc hL hS hc hrc hrs kk
  obtain ⟨hx, hb, hml, hown, hts, hK, hE, hr, hlocks, hname, hl, hRf, hRl, hB⟩ := C
  obtain ⟨hdg, hck, hj⟩ := xrow_parts hrow (fun _ _ _ _ h => by cases h)
  have hpc := xnx hj
  simp only [stp] at hst
  split at hst
  · rename_i v pl
    simp only [xck] at hck
    simp only [xpush, Option.some.injEq, Sum.inl.injEq, Prod.mk.injEq] at hst
    obtain ⟨rfl, rfl, rfl, rfl⟩ := hst
    exact lv_ldc2 hx hb hown (hts _ (xwd_in hck)) hdg (kk H LS locs cells slots _ hR hsc hL hS hpc hc rfl)
  · cases hst
theorem xs_getstatic {ix : Nat} : xOKc B xv scr D dA n0 k d p l e R s m args below meth c Q (.getstatic ix) := by
  intro C i pc aux ls st σ i' ls' st' σ' H LS locs cells slots hrow hst hR hsc hL hS hc hrc hrs kk
  obtain ⟨hx, hb, hml, hown, hts, hK, hE, hr, hlocks, hname, hl, hRf, hRl, hB⟩ := C
  obtain ⟨hdg, hck, hj⟩ := xrow_parts hrow (fun _ _ _ _ h => by cases h)
  have hpc := xnx hj
  simp only [stp] at hst
  split at hst
  · rename_i t nest pl
    simp only [xck, Bool.and_eq_true, decide_eq_true_eq] at hck
    obtain ⟨ht08, hlk⟩ := hck
    have go : ∀ {v : Value} {rest : List Value}, va_Z (xsn t.toNat).1 (xsn t.toNat).2.1 (xsn t.toNat).2.2 v (xA0 B) s s.heap → W p l e R s m args below meth c H locs cells slots Q (F0 m (pc + 3) LS (v :: rest)) → W p l e R s m args below meth c H locs cells slots Q (F0 m pc LS rest) := by
      intro v rest hZ K
      by_cases hn : nest = 0
      · rw [if_pos hn] at hlk
        exact va_gets hx hb hZ hS hown (hts _ (xwd_in hlk)) (fun _ h => h) hdg K
      · rw [if_neg hn] at hlk
        exact va_getsN hx hb hZ hS hown (va_Nw.use rfl (hE.2.2.2.2.2.2.2.2.1 _ (xwn_in hlk rfl))) (fun _ h => h) hdg K
    split at hst
    · rename_i ht
      subst ht
      simp only [xpush, Option.some.injEq, Sum.inl.injEq, Prod.mk.injEq] at hst
      obtain ⟨rfl, rfl, rfl, rfl⟩ := hst
      obtain ⟨tN, h1, h2, -⟩ := hE.2.2.1
      have K := kk H LS locs cells slots _ hR hsc hL hS hpc hc rfl
      simp only [List.map_cons] at K
      rw [show xVal B xv (.ref 1000001) = .ref tN from by rw [xVal_out (a := 1000001) (by omega)]; exact h1] at K
      exact go h2 K
    · split at hst
      · rename_i ht1
        subst ht1
        simp only [xpush, Option.some.injEq, Sum.inl.injEq, Prod.mk.injEq] at hst
        obtain ⟨rfl, rfl, rfl, rfl⟩ := hst
        exact go hE.2.2.2.1 (kk H LS locs cells slots _ hR hsc hL hS hpc hc rfl)
      · split at hst
        · rename_i ht2
          subst ht2
          simp only [xpush, Option.some.injEq, Sum.inl.injEq, Prod.mk.injEq] at hst
          obtain ⟨rfl, rfl, rfl, rfl⟩ := hst
          have K := kk H LS locs cells slots _ hR hsc hL hS hpc hc rfl
          simp only [List.map_cons] at K
          rw [show xVal B xv (.ref 1000002) = xv 2 from by rw [xVal_out (a := 1000002) (by omega)]] at K
          exact go hE.2.2.2.2.1 K
        · split at hst
          · rename_i ht3
            simp only [xpush, Option.some.injEq, Sum.inl.injEq, Prod.mk.injEq] at hst
            obtain ⟨rfl, rfl, rfl, rfl⟩ := hst
            have K := kk H LS locs cells slots _ hR hsc hL hS hpc hc rfl
            simp only [List.map_cons] at K
            rw [xVal_str (i := t.toNat) rfl] at K
            by_cases h6 : t < 6
            · obtain ⟨a, h1, h2, -⟩ := hE.2.2.2.2.2.2.2.2.2.2.2.2.1 (t.toNat - 3) (by omega)
              rw [show 3 + (t.toNat - 3) = t.toNat by omega] at h1 h2
              rw [h1] at K
              exact go h2 K
            · obtain ⟨a, h1, h2, -⟩ := hE.2.2.2.2.2.2.2.2.2.2.2.2.2 (t.toNat - 6) (by omega)
              rw [show 6 + (t.toNat - 6) = t.toNat by omega] at h1 h2
              rw [h1] at K
              exact go h2 K
          · cases hst
  · cases hst
theorem xs_iaload : xOKc B xv scr D dA n0 k d p l e R s m args below meth c Q .iaload := by
  intro C i pc aux ls st σ i' ls' st' σ' H LS locs cells slots hrow hst hR hsc hL hS hc hrc hrs kk
  obtain ⟨hx, hb, hml, hown, hts, hK, hE, hr, hlocks, hname, hl, hRf, hRl, hB⟩ := C
  obtain ⟨hdg, hck, hj⟩ := xrow_parts hrow (fun _ _ _ _ h => by cases h)
  have hpc := xnx hj
  simp only [stp] at hst
  unfold xaldI at hst
  split at hst
  · rename_i j a r
    split at hst
    · rename_i t' n f hrd
      split at hst
      · rename_i hcond
        obtain ⟨ht, hin⟩ := hcond
        simp only [xgo, Option.some.injEq, Sum.inl.injEq, Prod.mk.injEq] at hst
        obtain ⟨rfl, rfl, rfl, rfl⟩ := hst
        have K := kk H LS locs cells slots _ hR hsc hL hS hpc hc rfl
        simp only [List.map_cons] at K ⊢
        rcases xRd_cases hrd with ⟨ha, hh⟩ | ⟨h1, h2⟩ | ⟨h1, h2⟩ | ⟨z, hz, haz, h2⟩ | ⟨z, _, _, h2⟩ | ⟨z, _, _, h2⟩ | ⟨z, _, _, h2⟩
        · obtain ⟨-, q0, hq0⟩ := hR.arr hh
          rw [xVal_in ha]
          subst ht
          exact va_iald hx hb hK (xW_P hR) q0 0 hq0 rfl hin hdg K
        · cases h2
          obtain ⟨b, hb1, hb2⟩ := hE.2.1
          rw [show xVal B xv (.ref a) = .ref b from by rw [xVal_out (a := a) (by omega), h1]; exact hb1]
          rw [← hsc] at hb2
          exact va_ti hx hb hb2 hS hin rfl hdg K
        · cases h2
          obtain ⟨tN, hb1, -, hb2⟩ := hE.2.2.1
          rw [show xVal B xv (.ref a) = .ref tN from by rw [xVal_out (a := a) (by omega), h1]; exact hb1]
          exact va_ti hx hb hb2 hS hin rfl hdg K
        · cases h2
        · cases h2
        · cases h2
          cases ht
        · cases h2
          cases ht
      · cases hst
    · cases hst
  · cases hst
theorem xs_baload : xOKc B xv scr D dA n0 k d p l e R s m args below meth c Q .baload := by
  intro C i pc aux ls st σ i' ls' st' σ' H LS locs cells slots hrow hst hR hsc hL hS hc hrc hrs kk
  obtain ⟨hx, hb, hml, hown, hts, hK, hE, hr, hlocks, hname, hl, hRf, hRl, hB⟩ := C
  obtain ⟨hdg, hck, hj⟩ := xrow_parts hrow (fun _ _ _ _ h => by cases h)
  have hpc := xnx hj
  simp only [stp] at hst
  unfold xaldB at hst
  split at hst
  · rename_i j a r
    split at hst
    · rename_i t' n f hrd
      split at hst
      · rename_i hcond
        obtain ⟨ht, hin⟩ := hcond
        simp only [xgo, Option.some.injEq, Sum.inl.injEq, Prod.mk.injEq] at hst
        obtain ⟨rfl, rfl, rfl, rfl⟩ := hst
        have K := kk H LS locs cells slots _ hR hsc hL hS hpc hc rfl
        simp only [List.map_cons] at K ⊢
        rcases xRd_cases hrd with ⟨ha, hh⟩ | ⟨h1, h2⟩ | ⟨h1, h2⟩ | ⟨z, hz, haz, h2⟩ | ⟨z, hz, haz, h2⟩ | ⟨z, hz, haz, h2⟩ | ⟨z, hz, haz, h2⟩
        · obtain ⟨-, q0, hq0⟩ := hR.arr hh
          rw [xVal_in ha]
          subst ht
          exact va_bald hx hb hK (xW_P hR) q0 1 hq0 rfl hin hdg K
        · cases h2
          cases ht
        · cases h2
          cases ht
        · cases h2
        · cases h2
        · cases h2
          obtain ⟨tN, hb1, -, hb2⟩ := hE.2.2.2.2.2.2.2.2.2.2.2.2.2 z hz
          rw [show xVal B xv (.ref a) = .ref tN from (xVal_str (i := 6 + z) (by omega)).trans hb1]
          exact va_tb hx hb hb2 hS hin rfl hdg K
        · cases h2
          obtain ⟨adK, adV, had, hvk, hvr⟩ := hE.2.2.2.2.2.1
          have hT := (hvk z hz).2.2.2
          rw [show xVal B xv (.ref a) = .ref (adV z) from (xVal_str (i := 200 + z) (by omega)).trans (had z hz).2]
          exact va_tb hx hb hT hS hin rfl hdg K
      · cases hst
    · cases hst
  · cases hst
theorem xty_at {t : Nat} (h : 4 ≤ t ∧ t ≤ 8) : (xtys dA)[t]? = some (dA t, xty t) ∧ (xty t).isReference = true := by
  rcases (by omega : t = 4 ∨ t = 5 ∨ t = 6 ∨ t = 7 ∨ t = 8) with rfl | rfl | rfl | rfl | rfl <;> exact ⟨rfl, rfl⟩
theorem xs_aaload : xOKc B xv scr D dA n0 k d p l e R s m args below meth c Q .aaload := by
  intro C i pc aux ls st σ i' ls' st' σ' H LS locs cells slots hrow hst hR hsc hL hS hc hrc hrs kk
  obtain ⟨hx, hb, hml, hown, hts, hK, hE, hr, hlocks, hname, hl, hRf, hRl, hB⟩ := C
  obtain ⟨hdg, hck, hj⟩ := xrow_parts hrow (fun _ _ _ _ h => by cases h)
  have hpc := xnx hj
  simp only [stp] at hst
  unfold xaldA at hst
  split at hst
  · rename_i j a r
    split at hst
    · rename_i t' n f hrd
      split at hst
      · rename_i hcond
        obtain ⟨ht, hin⟩ := hcond
        have hlt : j.toNatClampNeg < n := Nat.not_le.mp fun q => hin (Or.inr q)
        rcases xRd_cases hrd with ⟨ha, hh⟩ | ⟨h1, h2⟩ | ⟨h1, h2⟩ | ⟨z, hz, haz, h2⟩ | ⟨z, hz, haz, h2⟩ | ⟨z, _, _, h2⟩ | ⟨z, _, _, h2⟩
        · obtain ⟨-, q0, hq0⟩ := hR.arr hh
          have h48 : 4 ≤ t' ∧ t' ≤ 8 := by
            rcases ht with ⟨g1, g2, -⟩ | ⟨-, g2⟩
            · exact ⟨g1, g2⟩
            · have g3 : (1000000 : Nat) ≤ a := g2
              omega
          obtain ⟨hty1, hty2⟩ := xty_at (dA := dA) h48
          have go : ∀ {v : Value}, va_rf ((f j.toNatClampNeg).map (fun a => B + a)) = v → W p l e R s m args below meth c H locs cells slots Q (F0 m (pc + 1) LS (v :: r.map (xVal B xv))) → W p l e R s m args below meth c H locs cells slots Q (F0 m pc LS (List.map (xVal B xv) (.int j :: .ref a :: r))) := by
            intro v hv K
            simp only [List.map_cons]
            rw [xVal_in ha]
            have hv2 : (arrV (dA t') n (fun j => va_rf ((f j).map (fun a => B + a)))).slots[j.toNatClampNeg]? = some v := by
              rw [arrV_read _ _ hlt, hv]
            exact W.aald (v := v) (ty := xty t') hx hb (xW_P hR q0 _ hq0) ((hK.2 t' _ hty1).1 n (fun j => va_rf ((f j).map (fun a => B + a)))) hty2 (fun q => by cases q) (by show ¬ (j < 0 ∨ (arrV _ _ _).slots.size ≤ _); rw [arrV_size]; exact hin) hv2 rfl rfl hdg K
          split at hst
          · rename_i b hfb
            split at hst
            · rename_i hb1
              simp only [xgo, Option.some.injEq, Sum.inl.injEq, Prod.mk.injEq] at hst
              obtain ⟨rfl, rfl, rfl, rfl⟩ := hst
              have K := kk H LS locs cells slots _ hR hsc hL hS hpc hc rfl
              simp only [List.map_cons] at K
              have hb2 : b < 1000000 := by
                rcases hb1 with hb1 | hb1
                · exact hb1
                · have g3 : (1000000 : Nat) ≤ a := hb1
                  omega
              rw [xVal_in hb2] at K
              exact go (by rw [hfb]; rfl) K
            · cases hst
          · rename_i hfb
            split at hst
            · simp only [xgo, Option.some.injEq, Sum.inl.injEq, Prod.mk.injEq] at hst
              obtain ⟨rfl, rfl, rfl, rfl⟩ := hst
              have K := kk H LS locs cells slots _ hR hsc hL hS hpc hc rfl
              simp only [List.map_cons] at K
              exact go (by rw [hfb]; rfl) K
            · rename_i hna
              exact absurd ha hna
        · cases h2
        · cases h2
        · cases h2
        · cases h2
          obtain ⟨tN, hb1, -, hb2⟩ := hE.2.2.2.2.2.2.2.2.2.2.2.2.1 z hz
          have hxr : xVal B xv (.ref a) = .ref tN := (xVal_str (i := 3 + z) (by omega)).trans hb1
          split at hst
          · rename_i b hfb
            split at hst
            · simp only [xgo, Option.some.injEq, Sum.inl.injEq, Prod.mk.injEq] at hst
              obtain ⟨rfl, rfl, rfl, rfl⟩ := hst
              have K := kk H LS locs cells slots _ hR hsc hL hS hpc hc rfl
              simp only [List.map_cons] at K ⊢
              rw [hxr]
              obtain ⟨w, hw1, hw2⟩ := Option.map_eq_some_iff.mp hfb
              have hb9 : xVal B xv (.ref b) = xv (100 + (xrows z).getD j.toNatClampNeg 0) := by
                rw [List.getD_eq_getElem?_getD, hw1]
                exact xVal_str (i := 100 + w) (by omega)
              rw [hb9] at K
              exact vb_tq hx hb hb2 hS hin rfl hdg K
            · cases hst
          · rename_i hfb
            have g3 : ¬ a < 1000000 := by
              have h4 : @Eq Nat a (1000003 + z) := haz
              intro h5
              have h6 : @LT.lt Nat _ a 1000000 := h5
              omega
            rw [if_neg g3] at hst
            cases hst
        · cases h2
        · cases h2
      · cases hst
    · cases hst
  · cases hst
theorem xs_alen : xOKc B xv scr D dA n0 k d p l e R s m args below meth c Q .arraylength := by
  intro C i pc aux ls st σ i' ls' st' σ' H LS locs cells slots hrow hst hR hsc hL hS hc hrc hrs kk
  obtain ⟨hx, hb, hml, hown, hts, hK, hE, hr, hlocks, hname, hl, hRf, hRl, hB⟩ := C
  obtain ⟨hdg, hck, hj⟩ := xrow_parts hrow (fun _ _ _ _ h => by cases h)
  have hpc := xnx hj
  simp only [stp] at hst
  split at hst
  · rename_i a r
    split at hst
    · rename_i t' n f hrd
      split at hst
      · rename_i ht
        simp only [xgo, Option.some.injEq, Sum.inl.injEq, Prod.mk.injEq] at hst
        obtain ⟨rfl, rfl, rfl, rfl⟩ := hst
        have K := kk H LS locs cells slots _ hR hsc hL hS hpc hc rfl
        simp only [List.map_cons] at K ⊢
        rcases xRd_cases hrd with ⟨ha, hh⟩ | ⟨h1, h2⟩ | ⟨h1, h2⟩ | ⟨z, hz, haz, h2⟩ | ⟨z, hz, haz, h2⟩ | ⟨z, hz, haz, h2⟩ | ⟨z, hz, haz, h2⟩
        · obtain ⟨-, q0, hq0⟩ := hR.arr hh
          rw [xVal_in ha]
          have hn : (xArr B (n, f)).1 = n := by
            obtain f | f | f | f | f := f <;> rfl
          rcases ht with ht | ht | ⟨g1, g2, -⟩
          · subst ht
            exact va_alen hx hb hK (xW_P hR) q0 0 hq0 rfl (by rw [hn]) hdg K
          · subst ht
            exact va_alen hx hb hK (xW_P hR) q0 1 hq0 rfl (by rw [hn]) hdg K
          · exact va_alen hx hb hK (xW_P hR) q0 t' hq0 (xty_at (dA := dA) ⟨g1, g2⟩).1 (by rw [hn]) hdg K
        · cases h2
          obtain ⟨b, hb1, hb2⟩ := hE.2.1
          rw [show xVal B xv (.ref a) = .ref b from by rw [xVal_out (a := a) (by omega), h1]; exact hb1]
          rw [← hsc] at hb2
          exact va_tlen hx hb hb2 hS rfl hdg K
        · cases h2
          obtain ⟨tN, hb1, -, hb2⟩ := hE.2.2.1
          rw [show xVal B xv (.ref a) = .ref tN from by rw [xVal_out (a := a) (by omega), h1]; exact hb1]
          exact va_tlen hx hb hb2 hS rfl hdg K
        · cases h2
        · cases h2
          exfalso
          omega
        · cases h2
          obtain ⟨tN, hb1, -, hb2⟩ := hE.2.2.2.2.2.2.2.2.2.2.2.2.2 z hz
          rw [show xVal B xv (.ref a) = .ref tN from (xVal_str (i := 6 + z) (by omega)).trans hb1]
          exact va_tlen hx hb hb2 hS rfl hdg K
        · cases h2
          obtain ⟨adK, adV, had, hvk, hvr⟩ := hE.2.2.2.2.2.1
          have hT := (hvk z hz).2.2.2
          rw [show xVal B xv (.ref a) = .ref (adV z) from (xVal_str (i := 200 + z) (by omega)).trans (had z hz).2]
          exact va_tlen hx hb hT hS rfl hdg K
      · cases hst
    · cases hst
  · cases hst
theorem xset_go {i pc off : Nat} {ls' : xL} {st' : List Value} {σ : xS} {H : Heap} {LS : Array Slot} {locs : List Loc} {cells slots a q0 : Nat} {e0 e1 : xE} (hB : s.heap.size = B + n0) (hR : xHR B xv D dA σ H) (hsc : σ.2.2 = scr) (hL : xLV B xv LS ls' (xmlf k)) (hS : va_S (xA0 B) s.heap H locs) (hc : cells + n0 = σ.2.1.1) (hq0 : (xW B xv dA σ)[q0]? = some (B + a, xEnt B xv dA e0)) (hal : a < σ.2.1.1) (hpc : xpc k i = some (pc + off))
    (kk : xWk B xv scr D dA n0 k p l e R s m args below meth c Q slots σ i ls' st' (xwr σ a e1)) :
    ∀ (H1 : Heap) (locs1 : List Loc), va_P D vwCl ((xW B xv dA σ).set q0 (B + a, xEnt B xv dA e1)) H1 → va_D (xA0 B) ((xW B xv dA σ).set q0 (B + a, xEnt B xv dA e1)) → va_S (xA0 B) H H1 locs1 → W p l e R s m args below meth c H1 locs1 cells slots Q (F0 m (pc + off) LS (st'.map (xVal B xv))) := by
  intro H1 locs1 hP1 _ hS1
  refine xsize (fun hsz => ?_)
  have hzz : H1.size = H.size := by have := hS1.1; have := hR.1; omega
  exact kk H1 LS locs1 cells slots _ (xW_set hR hq0 hal hzz hP1) hsc hL (xS_trans hS hS1) hpc hc rfl
theorem xs_iastore : xOKc B xv scr D dA n0 k d p l e R s m args below meth c Q .iastore := by
  intro C i pc aux ls st σ i' ls' st' σ' H LS locs cells slots hrow hst hR hsc hL hS hc hrc hrs kk
  obtain ⟨hx, hb, hml, hown, hts, hK, hE, hr, hlocks, hname, hl, hRf, hRl, hB⟩ := C
  obtain ⟨hdg, hck, hj⟩ := xrow_parts hrow (fun _ _ _ _ h => by cases h)
  have hpc := xnx hj
  simp only [stp] at hst
  unfold xastI at hst
  split at hst
  · rename_i x j a r
    split at hst
    · rename_i ha
      split at hst
      · rename_i t' n f hh
        split at hst
        · rename_i hcond
          obtain ⟨ht, hin⟩ := hcond
          simp only [xgo, Option.some.injEq, Sum.inl.injEq, Prod.mk.injEq] at hst
          obtain ⟨rfl, rfl, rfl, rfl⟩ := hst
          simp only [List.map_cons]
          obtain ⟨-, q0, hq0⟩ := hR.arr hh
          rw [xVal_in ha]
          subst ht
          exact va_iast hx hb hK (xW_P hR) xW_D (xS_self hS) q0 0 hq0 rfl hin hdg (xset_go (e0 := .inl (0, (n, .inl f))) hB hR hsc hL hS hc hq0 (hR.2.2 a _ hh).1 hpc kk)
        · cases hst
      · cases hst
    · cases hst
  · cases hst
theorem xs_bastore : xOKc B xv scr D dA n0 k d p l e R s m args below meth c Q .bastore := by
  intro C i pc aux ls st σ i' ls' st' σ' H LS locs cells slots hrow hst hR hsc hL hS hc hrc hrs kk
  obtain ⟨hx, hb, hml, hown, hts, hK, hE, hr, hlocks, hname, hl, hRf, hRl, hB⟩ := C
  obtain ⟨hdg, hck, hj⟩ := xrow_parts hrow (fun _ _ _ _ h => by cases h)
  have hpc := xnx hj
  simp only [stp] at hst
  unfold xastB at hst
  split at hst
  · rename_i x j a r
    split at hst
    · rename_i ha
      split at hst
      · rename_i t' n f hh
        split at hst
        · rename_i hin
          obtain ⟨-, q0, hq0⟩ := hR.arr hh
          split at hst
          · rename_i ht
            simp only [xgo, Option.some.injEq, Sum.inl.injEq, Prod.mk.injEq] at hst
            obtain ⟨rfl, rfl, rfl, rfl⟩ := hst
            simp only [List.map_cons]
            rw [xVal_in ha]
            subst ht
            exact va_bast hx hb hK (xW_P hR) xW_D (xS_self hS) q0 1 hq0 rfl hin hdg (xset_go (e0 := .inl (1, (n, .inl f))) hB hR hsc hL hS hc hq0 (hR.2.2 a _ hh).1 hpc kk)
          · cases hst
        · cases hst
      · cases hst
    · cases hst
  · cases hst
theorem xastRow (hexec : p.tables.exec = Jvm.exec) {cc : ByteArray} (hb : c.code = cc) {D : va_G} {cl : List vw_C} {ws : va_W} {H H0 : Heap} {A : Nat → Prop} {locs : List Loc} {cells slots pc a v n : Nat} {ls : Array Slot} {rest : List Value} (hK : va_K D cl (xtys dA) s) (hov : (Jvm.Cond.arrayOver (.array .int)).before #[] s = true) (hP : va_P D cl ws H) (hD : va_D A ws) (hS : va_S A H0 H locs) (q0 qk : Nat) {x : vp_A} {f : Nat → Option Nat} (ha : ws[q0]? = some (a, .inl (dA 5, n, .inr (.inr (.inr (.inr f)))))) (hv : ws[qk]? = some (v, .inl (dA 0, x))) {i : Int32} (hin : vp_in i n) (hdg : decode cc pc = .ok (.aastore, 1))
    (kk : ∀ (H1 : Heap) (locs1 : List Loc), va_P D cl (ws.set q0 (a, .inl (dA 5, n, .inr (.inr (.inr (.inr (va_up f i.toNatClampNeg (some v)))))))) H1 → va_D A (ws.set q0 (a, .inl (dA 5, n, .inr (.inr (.inr (.inr (va_up f i.toNatClampNeg (some v)))))))) → va_S A H0 H1 locs1 → W p l e R s m args below meth c H1 locs1 cells slots Q (F0 m (pc + 1) ls rest)) : W p l e R s m args below meth c H locs cells slots Q (F0 m pc ls (.ref v :: .int i :: .ref a :: rest)) := by
  have hlt : i.toNatClampNeg < n := Nat.not_le.mp fun q => hin (Or.inr q)
  have h0 : ¬ i < 0 := fun q => hin (Or.inl q)
  have hvm0 : (vp_cell (dA 0) x).vm = .none := by
    obtain ⟨n, f | f | f | f | f⟩ := x <;> rfl
  have hcl0 : (vp_cell (dA 0) x).cls = dA 0 := by
    obtain ⟨n, f | f | f | f | f⟩ := x <;> rfl
  have hcA : s.vm.findClass ("[" ++ (FieldType.array .int).toString) = some (dA 5) := (hK.2 5 _ rfl).2
  have hc0 : s.vm.findClass (FieldType.array .int).toString = some (dA 0) := (hK.2 0 _ rfl).2
  obtain ⟨comp, c9, k9, f1, -, f3, f4, f5⟩ := arrayOverA_spec hov
  cases hc0.symm.trans f1
  cases hcA.symm.trans f5
  obtain ⟨-, kI, hkI, -⟩ := (hK.2 0 _ rfl).1 0 (fun _ => .null)
  have hasg : s.vm.assignable (dA 0) (dA 0) = true := by
    show Vm.assignableAux _ (255 + 1) _ _ = true
    unfold Vm.assignableAux
    simp
  refine W.aast hexec hb (hP q0 _ ha) (fun q h => by cases h) (fun h => by cases h) f3 f4 rfl hkI ⟨h0, by show _ < (arrV _ _ _).slots.size; rw [arrV_size]; exact hlt⟩ (hP qk _ hv) (fun q h => by rw [hvm0] at h; cases h) (by rw [hcl0]; exact hkI) (by rw [hcl0]; exact hasg) rfl rfl hdg fun H1 e z oq => ?_
  refine kk H1 _ (hP.set hD ha ?_ oq) (hD.set ha) (hS.put z oq (hD.2 q0 _ ha))
  show H1[a]? = some (vp_cell _ _)
  rw [e]
  rw [vp_cell_q, vp_cell_q, arrV_store]
  congr 2
  funext q
  by_cases hq : q = i.toNatClampNeg
  · subst hq
    simp [updV, va_up, va_rf]
  · simp [updV, va_up, hq]
theorem xs_aastore : xOKc B xv scr D dA n0 k d p l e R s m args below meth c Q .aastore := by
  intro C i pc aux ls st σ i' ls' st' σ' H LS locs cells slots hrow hst hR hsc hL hS hc hrc hrs kk
  obtain ⟨hx, hb, hml, hown, hts, hK, hE, hr, hlocks, hname, hl, hRf, hRl, hB⟩ := C
  obtain ⟨hdg, hck, hj⟩ := xrow_parts hrow (fun _ _ _ _ h => by cases h)
  have hpc := xnx hj
  simp only [stp] at hst
  unfold xastA at hst
  split at hst
  · rename_i v j a r
    split at hst
    · rename_i hav
      obtain ⟨ha, hv⟩ := hav
      split at hst
      · rename_i t' n f cc fs hh hhv
        split at hst
        · rename_i hcond
          obtain ⟨ht, hcc, hin⟩ := hcond
          simp only [xgo, Option.some.injEq, Sum.inl.injEq, Prod.mk.injEq] at hst
          obtain ⟨rfl, rfl, rfl, rfl⟩ := hst
          simp only [List.map_cons]
          obtain ⟨-, q0, hq0⟩ := hR.arr hh
          obtain ⟨-, -, q1, hq1⟩ := hR.obj hhv
          rw [xVal_in ha, xVal_in hv]
          have hup : xEnt B xv dA (.inl (t', (n, .inr (.inr (.inr (.inr (va_up f j.toNatClampNeg (some v)))))))) = .inl (dA t', (n, .inr (.inr (.inr (.inr (va_up (fun j => (f j).map (fun a => B + a)) j.toNatClampNeg (some (B + v)))))))) := by
            have hz : (fun z => (va_up f j.toNatClampNeg (some v) z).map (fun a => B + a)) = va_up (fun j => (f j).map (fun a => B + a)) j.toNatClampNeg (some (B + v)) := by
              funext z
              simp only [va_up]
              split <;> rfl
            simp only [xEnt, xArr]
            rw [hz]
          have G := xset_go (e0 := .inl (t', (n, .inr (.inr (.inr (.inr f)))))) hB hR hsc hL hS hc hq0 (hR.2.2 a _ hh).1 hpc kk
          rw [hup] at G
          rcases ht with rfl | rfl | rfl | rfl
          · subst hcc
            exact va_astq (r := (RX4, TX4, 18)) hx hb hK (xW_P hR) xW_D (xS_self hS) q0 4 q1 4 hq0 rfl hq1 rfl hin hdg G
          · subst hcc
            exact va_astq (r := (RX9, TX9, 8)) hx hb hK (xW_P hR) xW_D (xS_self hS) q0 6 q1 9 hq0 rfl hq1 rfl hin hdg G
          · subst hcc
            exact va_astq (r := (RX12, TX12, 9)) hx hb hK (xW_P hR) xW_D (xS_self hS) q0 7 q1 12 hq0 rfl hq1 rfl hin hdg G
          · subst hcc
            exact va_astq (r := (RX8, TX8, 3)) hx hb hK (xW_P hR) xW_D (xS_self hS) q0 8 q1 8 hq0 rfl hq1 rfl hin hdg G
        · cases hst
      · rename_i t' n f x0 hh hhv
        split at hst
        · rename_i hcond
          obtain ⟨ht, hin⟩ := hcond
          simp only [xgo, Option.some.injEq, Sum.inl.injEq, Prod.mk.injEq] at hst
          obtain ⟨rfl, rfl, rfl, rfl⟩ := hst
          simp only [List.map_cons]
          obtain ⟨-, q0, hq0⟩ := hR.arr hh
          obtain ⟨-, q1, hq1⟩ := hR.arr hhv
          rw [xVal_in ha, xVal_in hv]
          subst ht
          have hup : xEnt B xv dA (.inl (5, (n, .inr (.inr (.inr (.inr (va_up f j.toNatClampNeg (some v)))))))) = .inl (dA 5, (n, .inr (.inr (.inr (.inr (va_up (fun j => (f j).map (fun a => B + a)) j.toNatClampNeg (some (B + v)))))))) := by
            have hz : (fun z => (va_up f j.toNatClampNeg (some v) z).map (fun a => B + a)) = va_up (fun j => (f j).map (fun a => B + a)) j.toNatClampNeg (some (B + v)) := by
              funext z
              simp only [va_up]
              split <;> rfl
            simp only [xEnt, xArr]
            rw [hz]
          have G := xset_go (e0 := .inl (5, (n, .inr (.inr (.inr (.inr f)))))) hB hR hsc hL hS hc hq0 (hR.2.2 a _ hh).1 hpc kk
          rw [hup] at G
          exact xastRow hx hb hK hE.2.2.2.2.2.2.2.2.2.2.1 (xW_P hR) xW_D (xS_self hS) q0 q1 hq0 hq1 hin hdg G
        · cases hst
      · cases hst
    · cases hst
  · rename_i j a r
    split at hst
    · rename_i ha
      split at hst
      · rename_i t' n f hh
        split at hst
        · rename_i hcond
          obtain ⟨ht, hin⟩ := hcond
          simp only [xgo, Option.some.injEq, Sum.inl.injEq, Prod.mk.injEq] at hst
          obtain ⟨rfl, rfl, rfl, rfl⟩ := hst
          simp only [List.map_cons]
          obtain ⟨-, q0, hq0⟩ := hR.arr hh
          rw [xVal_in ha]
          have hup : xEnt B xv dA (.inl (t', (n, .inr (.inr (.inr (.inr (va_up f j.toNatClampNeg none))))))) = .inl (dA t', (n, .inr (.inr (.inr (.inr (va_up (fun j => (f j).map (fun a => B + a)) j.toNatClampNeg none)))))) := by
            have hz : (fun z => (va_up f j.toNatClampNeg none z).map (fun a => B + a)) = va_up (fun j => (f j).map (fun a => B + a)) j.toNatClampNeg none := by
              funext z
              simp only [va_up]
              split <;> rfl
            simp only [xEnt, xArr]
            rw [hz]
          have G := xset_go (e0 := .inl (t', (n, .inr (.inr (.inr (.inr f)))))) hB hR hsc hL hS hc hq0 (hR.2.2 a _ hh).1 hpc kk
          rw [hup] at G
          rcases ht with rfl | rfl | rfl | rfl
          · exact va_astqN hx hb hK (xW_P hR) xW_D (xS_self hS) q0 4 hq0 rfl hin hdg G
          · exact va_astqN hx hb hK (xW_P hR) xW_D (xS_self hS) q0 6 hq0 rfl hin hdg G
          · exact va_astqN hx hb hK (xW_P hR) xW_D (xS_self hS) q0 7 hq0 rfl hin hdg G
          · exact va_astqN hx hb hK (xW_P hR) xW_D (xS_self hS) q0 8 hq0 rfl hin hdg G
        · cases hst
      · cases hst
    · cases hst
  · cases hst
theorem xs_checkcast {ix : Nat} : xOKc B xv scr D dA n0 k d p l e R s m args below meth c Q (.checkcast ix) := by
  intro C i pc aux ls st σ i' ls' st' σ' H LS locs cells slots hrow hst hR hsc hL hS hc hrc hrs kk
  obtain ⟨hx, hb, hml, hown, hts, hK, hE, hr, hlocks, hname, hl, hRf, hRl, hB⟩ := C
  obtain ⟨hdg, hck, hj⟩ := xrow_parts hrow (fun _ _ _ _ h => by cases h)
  have hpc := xnx hj
  simp only [stp] at hst
  split at hst
  · rename_i z pl a r
    split at hst
    · rename_i ha
      split at hst
      · rename_i t n f hh
        split at hst
        · rename_i hz
          simp only [xgo, Option.some.injEq, Sum.inl.injEq, Prod.mk.injEq] at hst
          obtain ⟨rfl, rfl, rfl, rfl⟩ := hst
          have K := kk H LS locs cells slots _ hR hsc hL hS hpc hc rfl
          simp only [List.map_cons] at K ⊢
          simp only [xck, Bool.and_eq_true] at hck
          have hw := hck.2
          obtain ⟨-, q0, hq0⟩ := hR.arr hh
          rw [xVal_in ha] at K ⊢
          rcases hz with ⟨rfl, rfl⟩ | ⟨rfl, rfl⟩
          · exact va_castA hx hb hown (hts _ (xwd_in hw)) (xW_P hR) q0 hq0 (hK.2 0 _ rfl).2 hdg K
          · exact va_castA hx hb hown (hts _ (xwd_in hw)) (xW_P hR) q0 hq0 (hK.2 1 _ rfl).2 hdg K
        · cases hst
      · cases hst
    · cases hst
  · cases hst
end XV

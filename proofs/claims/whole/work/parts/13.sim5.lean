/-! ===== steps: constants, statics, arrays ===== -/
section XV
variable {B : Nat} {xv : Nat → Value} {scr : Nat × (Nat → Int32)} {D : va_G} {dA : Nat → ClassId} {n0 k d : Nat} {p : Program} {l : Launch} {e : Env} {R : Room} {s : State} {m : MethodId} {args : Array Value} {below : List Frame} {meth : Method} {c : Code} {Q : State → Prop}
theorem xs_ldc {ix : Nat} : xOKc B xv scr D dA n0 k d p l e R s m args below meth c Q (.ldc ix) := by
  intro C i pc aux ls st σ i' ls' st' σ' H LS locs cells slots hrow hst hR hsc hL hS hc hrc hrs kk
  obtain ⟨hx, hb, hml, hown, hts, hK, hE, hr, hlocks, hname, hl, hRf, hRl, hB⟩ := C
  obtain ⟨hdg, hck, hj⟩ := xrow_parts hrow (fun _ _ _ _ h => by cases h)
  have hpc := xnx hj
  simp only [stp] at hst
  split at hst
  · rename_i t v pl
    simp only [xck] at hck
    split at hst
    · rename_i ht
      rw [if_pos ht] at hck
      simp only [xpush, Option.some.injEq, Sum.inl.injEq, Prod.mk.injEq] at hst
      obtain ⟨rfl, rfl, rfl, rfl⟩ := hst
      exact lv_ldc hx hb hown (hts _ (xwd_in hck)) hdg (kk H LS locs cells slots _ hR hsc hL hS hpc hc rfl)
    · rename_i ht
      rw [if_neg ht] at hck
      simp only [xpush, Option.some.injEq, Sum.inl.injEq, Prod.mk.injEq] at hst
      obtain ⟨rfl, rfl, rfl, rfl⟩ := hst
      simp only [Bool.and_eq_true, decide_eq_true_eq] at hck
      obtain ⟨adK, adV, had, hvk, hvr⟩ := hE.2.2.2.2.2.1
      have K := kk H LS locs cells slots _ hR hsc hL hS hpc hc rfl
      simp only [List.map_cons] at K
      have hxa : xVal B xv (.ref (1000100 + v.toNat)) = .ref (adK v.toNat) := by
        exact (xVal_str (i := 100 + v.toNat) (by omega)).trans (had _ hck.2).1
      rw [hxa] at K
      exact va_ldcS hx hb hown (hvr _ hck.1) hdg K
  · cases hst
theorem xs_ldc2 {ix : Nat} : xOKc B xv scr D dA n0 k d p l e R s m args below meth c Q (.ldc2_w ix) := by
  intro C i pc aux ls st σ i' ls' st' σ' H LS locs cells slots hrow hst hR hsc hL hS hc hrc hrs kk
  obtain ⟨hx, hb, hml, hown, hts, hK, hE, hr, hlocks, hname, hl, hRf, hRl, hB⟩ := C
  obtain ⟨hdg, hck, hj⟩ := xrow_parts hrow (fun _ _ _ _ h => by cases h)
  have hpc := xnx hj
  simp only [stp] at hst
  split at hst
  · rename_i v pl
    simp only [xck] at hck
    simp only [xpush, Option.some.injEq, Sum.inl.injEq, Prod.mk.injEq] at hst
    obtain ⟨rfl, rfl, rfl, rfl⟩ := hst
    exact lv_ldc2 hx hb hown (hts _ (xwd_in hck)) hdg (kk H LS locs cells slots _ hR hsc hL hS hpc hc rfl)
  · cases hst
theorem xs_getstatic {ix : Nat} : xOKc B xv scr D dA n0 k d p l e R s m args below meth c Q (.getstatic ix) := by
  intro C i pc aux ls st σ i' ls' st' σ' H LS locs cells slots hrow hst hR hsc hL hS hc hrc hrs kk
  obtain ⟨hx, hb, hml, hown, hts, hK, hE, hr, hlocks, hname, hl, hRf, hRl, hB⟩ := C
  obtain ⟨hdg, hck, hj⟩ := xrow_parts hrow (fun _ _ _ _ h => by cases h)
  have hpc := xnx hj
  simp only [stp] at hst
  split at hst
  · rename_i t pl
    simp only [xck] at hck
    split at hst
    · rename_i ht
      rw [if_pos ht] at hck
      simp only [xpush, Option.some.injEq, Sum.inl.injEq, Prod.mk.injEq] at hst
      obtain ⟨rfl, rfl, rfl, rfl⟩ := hst
      obtain ⟨tN, h1, h2, -⟩ := hE.2.2.1
      have K := kk H LS locs cells slots _ hR hsc hL hS hpc hc rfl
      simp only [List.map_cons] at K
      rw [show xVal B xv (.ref 1000001) = .ref tN from by rw [xVal_out (a := 1000001) (by omega)]; exact h1] at K
      exact va_gets hx hb h2 hS hown (hts _ (xwd_in hck)) (fun _ h => h) hdg K
    · rename_i ht
      rw [if_neg ht] at hck
      split at hst
      · rename_i ht1
        rw [if_pos ht1] at hck
        simp only [xpush, Option.some.injEq, Sum.inl.injEq, Prod.mk.injEq] at hst
        obtain ⟨rfl, rfl, rfl, rfl⟩ := hst
        exact va_gets hx hb hE.2.2.2.1 hS hown (hts _ (xwd_in hck)) (fun _ h => h) hdg (kk H LS locs cells slots _ hR hsc hL hS hpc hc rfl)
      · rename_i ht1
        rw [if_neg ht1] at hck
        split at hst
        · simp only [xpush, Option.some.injEq, Sum.inl.injEq, Prod.mk.injEq] at hst
          obtain ⟨rfl, rfl, rfl, rfl⟩ := hst
          have K := kk H LS locs cells slots _ hR hsc hL hS hpc hc rfl
          simp only [List.map_cons] at K
          rw [show xVal B xv (.ref 1000002) = xv 2 from by rw [xVal_out (a := 1000002) (by omega)]] at K
          exact va_gets hx hb hE.2.2.2.2.1 hS hown (hts _ (xwd_in hck)) (fun _ h => h) hdg K
        · cases hst
  · cases hst
theorem xlen14 : ∀ z, z < 14 → (xstr.map (·.length)).getD z 0 = (xstr.getD z []).length := by decide +kernel
theorem xs_iaload : xOKc B xv scr D dA n0 k d p l e R s m args below meth c Q .iaload := by
  intro C i pc aux ls st σ i' ls' st' σ' H LS locs cells slots hrow hst hR hsc hL hS hc hrc hrs kk
  obtain ⟨hx, hb, hml, hown, hts, hK, hE, hr, hlocks, hname, hl, hRf, hRl, hB⟩ := C
  obtain ⟨hdg, hck, hj⟩ := xrow_parts hrow (fun _ _ _ _ h => by cases h)
  have hpc := xnx hj
  simp only [stp] at hst
  unfold xaldI at hst
  split at hst
  · rename_i j a r
    split at hst
    · rename_i t' n f hrd
      split at hst
      · rename_i hcond
        obtain ⟨ht, hin⟩ := hcond
        simp only [xgo, Option.some.injEq, Sum.inl.injEq, Prod.mk.injEq] at hst
        obtain ⟨rfl, rfl, rfl, rfl⟩ := hst
        have K := kk H LS locs cells slots _ hR hsc hL hS hpc hc rfl
        simp only [List.map_cons] at K ⊢
        rcases xRd_cases hrd with ⟨ha, hh⟩ | ⟨h1, h2⟩ | ⟨h1, h2⟩ | ⟨z, hz, haz, h2⟩ | ⟨z, _, _, h2⟩
        · obtain ⟨-, q0, hq0⟩ := hR.arr hh
          rw [xVal_in ha]
          subst ht
          exact va_iald hx hb hK (xW_P hR) q0 0 hq0 rfl hin hdg K
        · cases h2
          obtain ⟨b, hb1, hb2⟩ := hE.2.1
          rw [show xVal B xv (.ref a) = .ref b from by rw [xVal_out (a := a) (by omega), h1]; exact hb1]
          rw [← hsc] at hb2
          exact va_ti hx hb hb2 hS hin rfl hdg K
        · cases h2
          obtain ⟨tN, hb1, -, hb2⟩ := hE.2.2.1
          rw [show xVal B xv (.ref a) = .ref tN from by rw [xVal_out (a := a) (by omega), h1]; exact hb1]
          exact va_ti hx hb hb2 hS hin rfl hdg K
        · cases h2
        · cases h2
          cases ht
      · cases hst
    · cases hst
  · cases hst
theorem xs_baload : xOKc B xv scr D dA n0 k d p l e R s m args below meth c Q .baload := by
  intro C i pc aux ls st σ i' ls' st' σ' H LS locs cells slots hrow hst hR hsc hL hS hc hrc hrs kk
  obtain ⟨hx, hb, hml, hown, hts, hK, hE, hr, hlocks, hname, hl, hRf, hRl, hB⟩ := C
  obtain ⟨hdg, hck, hj⟩ := xrow_parts hrow (fun _ _ _ _ h => by cases h)
  have hpc := xnx hj
  simp only [stp] at hst
  unfold xaldB at hst
  split at hst
  · rename_i j a r
    split at hst
    · rename_i t' n f hrd
      split at hst
      · rename_i hcond
        obtain ⟨ht, hin⟩ := hcond
        simp only [xgo, Option.some.injEq, Sum.inl.injEq, Prod.mk.injEq] at hst
        obtain ⟨rfl, rfl, rfl, rfl⟩ := hst
        have K := kk H LS locs cells slots _ hR hsc hL hS hpc hc rfl
        simp only [List.map_cons] at K ⊢
        rcases xRd_cases hrd with ⟨ha, hh⟩ | ⟨h1, h2⟩ | ⟨h1, h2⟩ | ⟨z, hz, haz, h2⟩ | ⟨z, hz, haz, h2⟩
        · obtain ⟨-, q0, hq0⟩ := hR.arr hh
          rw [xVal_in ha]
          rcases ht with ht | ⟨ht, -⟩
          · subst ht
            exact va_bald hx hb hK (xW_P hR) q0 1 hq0 rfl hin hdg K
          · subst ht
            exact va_zald hx hb hK (xW_P hR) q0 2 hq0 rfl hin hdg K
        · cases h2
          rcases ht with ht | ⟨ht, -⟩ <;> cases ht
        · cases h2
          rcases ht with ht | ⟨ht, -⟩ <;> cases ht
        · cases h2
        · cases h2
          obtain ⟨adK, adV, had, hvk, hvr⟩ := hE.2.2.2.2.2.1
          have hT := (hvk z hz).2.2.2
          rw [show xVal B xv (.ref a) = .ref (adV z) from (xVal_str (i := 200 + z) (by omega)).trans (had z hz).2]
          exact va_tb hx hb hT hS hin rfl hdg K
      · cases hst
    · cases hst
  · cases hst
theorem xs_laload : xOKc B xv scr D dA n0 k d p l e R s m args below meth c Q .laload := by
  intro C i pc aux ls st σ i' ls' st' σ' H LS locs cells slots hrow hst hR hsc hL hS hc hrc hrs kk
  obtain ⟨hx, hb, hml, hown, hts, hK, hE, hr, hlocks, hname, hl, hRf, hRl, hB⟩ := C
  obtain ⟨hdg, hck, hj⟩ := xrow_parts hrow (fun _ _ _ _ h => by cases h)
  have hpc := xnx hj
  simp only [stp] at hst
  unfold xaldL at hst
  split at hst
  · rename_i j a r
    split at hst
    · rename_i ha
      split at hst
      · rename_i t' n f hh
        split at hst
        · rename_i hcond
          obtain ⟨ht, hin⟩ := hcond
          simp only [xgo, Option.some.injEq, Sum.inl.injEq, Prod.mk.injEq] at hst
          obtain ⟨rfl, rfl, rfl, rfl⟩ := hst
          have K := kk H LS locs cells slots _ hR hsc hL hS hpc hc rfl
          simp only [List.map_cons] at K ⊢
          obtain ⟨-, q0, hq0⟩ := hR.arr hh
          rw [xVal_in ha]
          subst ht
          exact va_lald hx hb hK (xW_P hR) q0 3 hq0 rfl hin hdg K
        · cases hst
      · cases hst
    · cases hst
  · cases hst
theorem xs_aaload : xOKc B xv scr D dA n0 k d p l e R s m args below meth c Q .aaload := by
  intro C i pc aux ls st σ i' ls' st' σ' H LS locs cells slots hrow hst hR hsc hL hS hc hrc hrs kk
  obtain ⟨hx, hb, hml, hown, hts, hK, hE, hr, hlocks, hname, hl, hRf, hRl, hB⟩ := C
  obtain ⟨hdg, hck, hj⟩ := xrow_parts hrow (fun _ _ _ _ h => by cases h)
  have hpc := xnx hj
  simp only [stp] at hst
  unfold xaldA at hst
  split at hst
  · rename_i j a r
    split at hst
    · rename_i ha
      split at hst
      · rename_i t' n f hh
        split at hst
        · rename_i hcond
          obtain ⟨ht, hin⟩ := hcond
          split at hst
          · rename_i b hfb
            split at hst
            · rename_i hb1
              simp only [xgo, Option.some.injEq, Sum.inl.injEq, Prod.mk.injEq] at hst
              obtain ⟨rfl, rfl, rfl, rfl⟩ := hst
              have K := kk H LS locs cells slots _ hR hsc hL hS hpc hc rfl
              simp only [List.map_cons] at K ⊢
              obtain ⟨-, q0, hq0⟩ := hR.arr hh
              rw [xVal_in ha]
              rw [xVal_in hb1] at K
              have hlt : j.toNatClampNeg < n := Nat.not_le.mp fun q => hin (Or.inr q)
              have hv : (arrV (dA t') n (fun j => va_rf ((f j).map (fun a => B + a)))).slots[j.toNatClampNeg]? = some (.ref (B + b)) := by
                rw [arrV_read _ _ hlt, hfb]; rfl
              rcases ht with ht | ht
              · subst ht
                exact W.aald (v := .ref (B + b)) (ty := .object "LampStrip$Strip") hx hb (xW_P hR q0 _ hq0) ((hK.2 4 _ rfl).1 n (fun j => va_rf ((f j).map (fun a => B + a)))) rfl (fun q => by cases q) (by show ¬ (j < 0 ∨ (arrV _ _ _).slots.size ≤ _); rw [arrV_size]; exact hin) hv rfl rfl hdg K
              · subst ht
                exact W.aald (v := .ref (B + b)) (ty := .array .int) hx hb (xW_P hR q0 _ hq0) ((hK.2 5 _ rfl).1 n (fun j => va_rf ((f j).map (fun a => B + a)))) rfl (fun q => by cases q) (by show ¬ (j < 0 ∨ (arrV _ _ _).slots.size ≤ _); rw [arrV_size]; exact hin) hv rfl rfl hdg K
            · cases hst
          · cases hst
        · cases hst
      · cases hst
    · cases hst
  · cases hst
theorem xs_alen : xOKc B xv scr D dA n0 k d p l e R s m args below meth c Q .arraylength := by
  intro C i pc aux ls st σ i' ls' st' σ' H LS locs cells slots hrow hst hR hsc hL hS hc hrc hrs kk
  obtain ⟨hx, hb, hml, hown, hts, hK, hE, hr, hlocks, hname, hl, hRf, hRl, hB⟩ := C
  obtain ⟨hdg, hck, hj⟩ := xrow_parts hrow (fun _ _ _ _ h => by cases h)
  have hpc := xnx hj
  simp only [stp] at hst
  split at hst
  · rename_i a r
    split at hst
    · rename_i t' n f hrd
      split at hst
      · rename_i ht
        simp only [xgo, Option.some.injEq, Sum.inl.injEq, Prod.mk.injEq] at hst
        obtain ⟨rfl, rfl, rfl, rfl⟩ := hst
        have K := kk H LS locs cells slots _ hR hsc hL hS hpc hc rfl
        simp only [List.map_cons] at K ⊢
        rcases xRd_cases hrd with ⟨ha, hh⟩ | ⟨h1, h2⟩ | ⟨h1, h2⟩ | ⟨z, hz, haz, h2⟩ | ⟨z, hz, haz, h2⟩
        · obtain ⟨-, q0, hq0⟩ := hR.arr hh
          rw [xVal_in ha]
          rcases ht with ht | ht
          · subst ht
            have hn : (xArr B (n, f)).1 = n := by
              obtain f | f | f | f | f := f <;> rfl
            exact va_alen hx hb hK (xW_P hR) q0 0 hq0 rfl (by rw [hn]) hdg K
          · exact absurd ha (Nat.not_lt.mpr ht.2)
        · cases h2
          obtain ⟨b, hb1, hb2⟩ := hE.2.1
          rw [show xVal B xv (.ref a) = .ref b from by rw [xVal_out (a := a) (by omega), h1]; exact hb1]
          rw [← hsc] at hb2
          exact va_tlen hx hb hb2 hS rfl hdg K
        · cases h2
          obtain ⟨tN, hb1, -, hb2⟩ := hE.2.2.1
          rw [show xVal B xv (.ref a) = .ref tN from by rw [xVal_out (a := a) (by omega), h1]; exact hb1]
          exact va_tlen hx hb hb2 hS rfl hdg K
        · cases h2
        · cases h2
          obtain ⟨adK, adV, had, hvk, hvr⟩ := hE.2.2.2.2.2.1
          have hT := (hvk z hz).2.2.2
          rw [show xVal B xv (.ref a) = .ref (adV z) from (xVal_str (i := 200 + z) (by omega)).trans (had z hz).2]
          exact va_tlen hx hb hT hS rfl hdg K
      · cases hst
    · cases hst
  · cases hst
theorem xset_go {i pc off : Nat} {ls' : xL} {st' : List Value} {σ : xS} {H : Heap} {LS : Array Slot} {locs : List Loc} {cells slots a q0 : Nat} {e0 e1 : xE} (hB : s.heap.size = B + n0) (hR : xHR B xv D dA σ H) (hsc : σ.2.2 = scr) (hL : xLV B xv LS ls' (xmlf k)) (hS : va_S (xA0 B) s.heap H locs) (hc : cells + n0 = σ.2.1.1) (hq0 : (xW B xv dA σ)[q0]? = some (B + a, xEnt B xv dA e0)) (hal : a < σ.2.1.1) (hpc : xpc k i = some (pc + off))
    (kk : xWk B xv scr D dA n0 k p l e R s m args below meth c Q slots σ i ls' st' (xwr σ a e1)) :
    ∀ (H1 : Heap) (locs1 : List Loc), va_P D vwCl ((xW B xv dA σ).set q0 (B + a, xEnt B xv dA e1)) H1 → va_D (xA0 B) ((xW B xv dA σ).set q0 (B + a, xEnt B xv dA e1)) → va_S (xA0 B) H H1 locs1 → W p l e R s m args below meth c H1 locs1 cells slots Q (F0 m (pc + off) LS (st'.map (xVal B xv))) := by
  intro H1 locs1 hP1 _ hS1
  refine xsize (fun hsz => ?_)
  have hzz : H1.size = H.size := by have := hS1.1; have := hR.1; omega
  exact kk H1 LS locs1 cells slots _ (xW_set hR hq0 hal hzz hP1) hsc hL (xS_trans hS hS1) hpc hc rfl
theorem xs_iastore : xOKc B xv scr D dA n0 k d p l e R s m args below meth c Q .iastore := by
  intro C i pc aux ls st σ i' ls' st' σ' H LS locs cells slots hrow hst hR hsc hL hS hc hrc hrs kk
  obtain ⟨hx, hb, hml, hown, hts, hK, hE, hr, hlocks, hname, hl, hRf, hRl, hB⟩ := C
  obtain ⟨hdg, hck, hj⟩ := xrow_parts hrow (fun _ _ _ _ h => by cases h)
  have hpc := xnx hj
  simp only [stp] at hst
  unfold xastI at hst
  split at hst
  · rename_i x j a r
    split at hst
    · rename_i ha
      split at hst
      · rename_i t' n f hh
        split at hst
        · rename_i hcond
          obtain ⟨ht, hin⟩ := hcond
          simp only [xgo, Option.some.injEq, Sum.inl.injEq, Prod.mk.injEq] at hst
          obtain ⟨rfl, rfl, rfl, rfl⟩ := hst
          simp only [List.map_cons]
          obtain ⟨-, q0, hq0⟩ := hR.arr hh
          rw [xVal_in ha]
          subst ht
          exact va_iast hx hb hK (xW_P hR) xW_D (xS_self hS) q0 0 hq0 rfl hin hdg (xset_go (e0 := .inl (0, (n, .inl f))) hB hR hsc hL hS hc hq0 (hR.2.2 a _ hh).1 hpc kk)
        · cases hst
      · cases hst
    · cases hst
  · cases hst
theorem xs_bastore : xOKc B xv scr D dA n0 k d p l e R s m args below meth c Q .bastore := by
  intro C i pc aux ls st σ i' ls' st' σ' H LS locs cells slots hrow hst hR hsc hL hS hc hrc hrs kk
  obtain ⟨hx, hb, hml, hown, hts, hK, hE, hr, hlocks, hname, hl, hRf, hRl, hB⟩ := C
  obtain ⟨hdg, hck, hj⟩ := xrow_parts hrow (fun _ _ _ _ h => by cases h)
  have hpc := xnx hj
  simp only [stp] at hst
  unfold xastB at hst
  split at hst
  · rename_i x j a r
    split at hst
    · rename_i ha
      split at hst
      · rename_i t' n f hh
        split at hst
        · rename_i hin
          obtain ⟨-, q0, hq0⟩ := hR.arr hh
          split at hst
          · rename_i ht
            simp only [xgo, Option.some.injEq, Sum.inl.injEq, Prod.mk.injEq] at hst
            obtain ⟨rfl, rfl, rfl, rfl⟩ := hst
            simp only [List.map_cons]
            rw [xVal_in ha]
            subst ht
            exact va_bast hx hb hK (xW_P hR) xW_D (xS_self hS) q0 1 hq0 rfl hin hdg (xset_go (e0 := .inl (1, (n, .inl f))) hB hR hsc hL hS hc hq0 (hR.2.2 a _ hh).1 hpc kk)
          · split at hst
            · rename_i ht
              simp only [xgo, Option.some.injEq, Sum.inl.injEq, Prod.mk.injEq] at hst
              obtain ⟨rfl, rfl, rfl, rfl⟩ := hst
              simp only [List.map_cons]
              rw [xVal_in ha]
              subst ht
              exact va_zast hx hb hK (xW_P hR) xW_D (xS_self hS) q0 2 hq0 rfl hin hdg (xset_go (e0 := .inl (2, (n, .inl f))) hB hR hsc hL hS hc hq0 (hR.2.2 a _ hh).1 hpc kk)
            · cases hst
        · cases hst
      · cases hst
    · cases hst
  · cases hst
theorem xs_lastore : xOKc B xv scr D dA n0 k d p l e R s m args below meth c Q .lastore := by
  intro C i pc aux ls st σ i' ls' st' σ' H LS locs cells slots hrow hst hR hsc hL hS hc hrc hrs kk
  obtain ⟨hx, hb, hml, hown, hts, hK, hE, hr, hlocks, hname, hl, hRf, hRl, hB⟩ := C
  obtain ⟨hdg, hck, hj⟩ := xrow_parts hrow (fun _ _ _ _ h => by cases h)
  have hpc := xnx hj
  simp only [stp] at hst
  unfold xastL at hst
  split at hst
  · rename_i x j a r
    split at hst
    · rename_i ha
      split at hst
      · rename_i t' n f hh
        split at hst
        · rename_i hcond
          obtain ⟨ht, hin⟩ := hcond
          simp only [xgo, Option.some.injEq, Sum.inl.injEq, Prod.mk.injEq] at hst
          obtain ⟨rfl, rfl, rfl, rfl⟩ := hst
          simp only [List.map_cons]
          obtain ⟨-, q0, hq0⟩ := hR.arr hh
          rw [xVal_in ha]
          subst ht
          exact va_last hx hb hK (xW_P hR) xW_D (xS_self hS) q0 3 hq0 rfl hin hdg (xset_go (e0 := .inl (3, (n, .inr (.inl f)))) hB hR hsc hL hS hc hq0 (hR.2.2 a _ hh).1 hpc kk)
        · cases hst
      · cases hst
    · cases hst
  · cases hst
theorem xs_aastore : xOKc B xv scr D dA n0 k d p l e R s m args below meth c Q .aastore := by
  intro C i pc aux ls st σ i' ls' st' σ' H LS locs cells slots hrow hst hR hsc hL hS hc hrc hrs kk
  obtain ⟨hx, hb, hml, hown, hts, hK, hE, hr, hlocks, hname, hl, hRf, hRl, hB⟩ := C
  obtain ⟨hdg, hck, hj⟩ := xrow_parts hrow (fun _ _ _ _ h => by cases h)
  have hpc := xnx hj
  simp only [stp] at hst
  unfold xastA at hst
  split at hst
  · rename_i v j a r
    split at hst
    · rename_i hav
      obtain ⟨ha, hv⟩ := hav
      split at hst
      · rename_i t' n f cc fs hh hhv
        split at hst
        · rename_i hcond
          obtain ⟨ht, hcc, hin⟩ := hcond
          simp only [xgo, Option.some.injEq, Sum.inl.injEq, Prod.mk.injEq] at hst
          obtain ⟨rfl, rfl, rfl, rfl⟩ := hst
          simp only [List.map_cons]
          obtain ⟨-, q0, hq0⟩ := hR.arr hh
          obtain ⟨-, -, q1, hq1⟩ := hR.obj hhv
          rw [xVal_in ha, xVal_in hv]
          subst ht
          subst hcc
          have hup : xEnt B xv dA (.inl (4, (n, .inr (.inr (.inr (.inr (va_up f j.toNatClampNeg (some v)))))))) = .inl (dA 4, (n, .inr (.inr (.inr (.inr (va_up (fun j => (f j).map (fun a => B + a)) j.toNatClampNeg (some (B + v)))))))) := by
            have hz : (fun z => (va_up f j.toNatClampNeg (some v) z).map (fun a => B + a)) = va_up (fun j => (f j).map (fun a => B + a)) j.toNatClampNeg (some (B + v)) := by
              funext z
              simp only [va_up]
              split <;> rfl
            simp only [xEnt, xArr]
            rw [hz]
          have G := xset_go (e0 := .inl (4, (n, .inr (.inr (.inr (.inr f)))))) hB hR hsc hL hS hc hq0 (hR.2.2 a _ hh).1 hpc kk
          rw [hup] at G
          exact va_astq (r := (RX4, TX4, 18)) hx hb hK (xW_P hR) xW_D (xS_self hS) q0 4 q1 4 hq0 rfl hq1 rfl hin hdg G
        · cases hst
      · cases hst
    · cases hst
  · cases hst
end XV

/-! ===== the law, whole ===== -/
section
variable {d : Nat} {σ τ : xS} {Q : xR → xS → Prop} {L : Nat} {xs : Nat → Int32} {i j : Nat} {m3 m4 m5 m6 m7 m8 m9 m10 m11 m12 m13 m14 m15 m16 m17 m18 m19 m20 m21 m22 m23 m24 m25 m26 m27 m28 m29 m30 m31 m32 : Option Value}
/-- one number of the script, on an empty heap -/
theorem l_244_it (hi : i < 2) (hL : i < L) (hL' : L ≤ 260) (H : ∀ (τ : xS), pFb 127000 480000 (xs0 L xs) τ → ∀ (m3 m4 m5 m6 m7 m8 m9 m10 m11 m12 m13 m14 m15 m16 m17 m18 m19 m20 m21 m22 m23 m24 m25 m26 m27 m28 m29 m30 m31 m32 : Option Value), G (d + 60) 244 4 [some (.ref 1000000), some (.int 1), some (.int (yI (i + 1))), m3, m4, m5, m6, m7, m8, m9, m10, m11, m12, m13, m14, m15, m16, m17, m18, m19, m20, m21, m22, m23, m24, m25, m26, m27, m28, m29, m30, m31, m32] [] τ Q) : G (d + 60) 244 4 [some (.ref 1000000), some (.int 1), some (.int (yI i)), none, none, none, none, none, none, none, none, none, none, none, none, none, none, none, none, none, none, none, none, none, none, none, none, none, none, none, none, none, none] [] (xs0 L xs) Q := by
  obtain ⟨σ1, B, ⟨I1, P1⟩, ⟨n1, A1⟩, st1⟩ := l_244_b0 (d := d) L xs hi hL hL'
  obtain ⟨σ2, E', ⟨I2, P2⟩, A2, st2⟩ := l_244_b1 (d := d) (i2 := yI i) (l6 := none) (l7 := none) (l8 := none) (l9 := none) (l10 := none) (l11 := none) (l12 := none) (l13 := none) (l14 := none) (l15 := none) (l16 := none) (l17 := none) (l18 := none) (l19 := none) (l20 := none) (l21 := none) (l22 := none) (l23 := none) (l24 := none) (l25 := none) (l26 := none) (l27 := none) (l28 := none) (l29 := none) (l30 := none) (l31 := none) (l32 := none) I1 P1 n1
  refine (st1 Q).mpr ((st2 Q).mpr ?_)
  have a2 := A2.1
  refine l_244_b2 I2 P2 ⟨by omega, by omega⟩ (fun σ3 bf sl s L3 A3 => ?_)
  have B3 := (pFb.trans A1 A2).trans A3
  have b3 := A3.1
  refine l_244_L 24 0 0 σ3 0 s L3 (by decide) (Nat.le_refl _) (by decide) (by omega) (fun σ4 y s' hy L4 A4 => ?_)
  intro l10 l11 l12 l13 l14 l15 l16 l17 l18 l19 l20 l21 l22 l23 l24 l25 l26 l27 l28 l29 l30 l31 l32
  obtain ⟨lo, hi', R, cv, dn, en, D, k, E, s0, s1, eo, en1, W, K, hk⟩ := L4
  have U : pUn (0 + 201 * 24) lo hi' bf sl σ4 y 0 := by
    obtain ⟨Bx, I⟩ := W.1
    obtain ⟨gb, g1, -, g2⟩ := K.2.1
    exact ⟨D, k, E, s0, s1, Bx, eo, en1, I, by omega, K.1.1.1, gb, g1, fun j h1 h2 => g2 j h1 h2⟩
  have hm : min 8 y ≤ 8 := Nat.min_le_left _ _
  have b4 := A4.1
  have z0 : yI 0 = 0 := rfl
  simp only [s_244_603, s_244_604, Gk_v, Gk_n, xcat_nil, xcat_i, xcat_r, xcat_l, xcat_d, Nat.zero_le, Nat.reduceAdd, Nat.reduceLeDiff, true_and, and_true, ykl_i, ykl_r, ykl_n, ykl_l]
  rw [← z0]
  refine l_244_U hy (min 8 y) 0 σ4 (Nat.zero_add _) U (by omega) (fun σ5 hI A5 => ?_) _ _ _ _ _ _ _ _ _ _ _ _ _ _ _ _ _ _ _ _ _ _
  obtain ⟨D5, k5, E5, s05, s15, B5, eo5, en5, I5⟩ := hI
  intro l10 l11 l12 l13 l14 l15 l16 l17 l18 l19 l20 l21 l22 l23 l24 l25 l26 l27 l28 l29 l30 l31 l32
  have b5 := A5.1
  refine l_244_f I5 (by omega) (fun σ6 A6 => ?_)
  intro m3 m4 m5 m6 m7 m8 m9 m10 m11 m12 m13 m14 m15 m16 m17 m18 m19 m20 m21 m22 m23 m24 m25 m26 m27 m28 m29 m30 m31 m32
  have e : yI i + 1 = yI (i + 1) := yI_add
  rw [e]
  exact H σ6 (pFb.mono (((B3.trans A4).trans A5).trans A6) (by omega) (by omega)) _ _ _ _ _ _ _ _ _ _ _ _ _ _ _ _ _ _ _ _ _ _ _ _ _ _ _ _ _ _
/-- the end -/
theorem l_244_e (hj : L ≤ j ∨ 2 ≤ j) (hj' : j < 1000) (hL' : L ≤ 260) (ht : τ.2.2 = (L, xs)) : G (d + 60) 244 4 [some (.ref 1000000), some (.int 1), some (.int (yI j)), m3, m4, m5, m6, m7, m8, m9, m10, m11, m12, m13, m14, m15, m16, m17, m18, m19, m20, m21, m22, m23, m24, m25, m26, m27, m28, m29, m30, m31, m32] [] τ Q ↔ Q (.inl (some (.int 1))) τ := by
  have sc : xRd τ 1000000 = some (.inl (0, (L, .inl xs))) := by rw [xRd_scr, ht]
  by_cases h : L ≤ j
  · have z : yI L ≤ yI j := (yI_le (by omega) (by omega)).mpr h
    simp only [s_244_4, s_244_5, s_244_6, s_244_7, sc, hln_0, z, if_true, s_244_672, s_244_673, ybo_1, hgf_s, hsel_0, hsel_1, hsel_2, hsel_3, hsel_4, hsel_5, hsel_6, hsel_7, hsel_8, hset_0, hset_1, hset_2, hset_3, hset_4, hset_5, hset_6, hset_7, hset_8, hpf_s, hcl_s, hai_s, hpi_0, hpi_1, hln_0, hln_1, List.length_cons, List.length_nil, xwr_1, xwr_2, xnew_1, xnew_n, xnew_s, xnew_z, Nat.reduceLT, ite_true, and_self, hp_8_0, hp_8_1, hn_8_1, hp_8_2, hn_8_2, hp_9_0, hp_9_1, hp_9_2, hp_9_3, hp_9_4, hp_9_5, hn_9_5, hp_9_6, hn_9_6, hp_9_7, hn_9_7, hp_10_0, hp_10_1, hp_10_2, hn_10_2, hp_10_3, hn_10_3, hp_11_0, hp_12_0, hn_12_0, hp_12_1, hp_12_2, hp_12_3, hp_12_4, hp_12_5, hn_12_5, hp_12_6, hn_12_6, hp_12_7, hp_12_8, hp_13_0, hn_13_0, hp_13_1, hp_13_2, hp_13_3, hp_14_0, hn_14_0, hp_14_1, hp_14_2, hp_14_3, xdef_8, xdef_9, xdef_10, xdef_11, xdef_12, xdef_13, xdef_14, Gk_v, Gk_n, xcat_nil, xcat_i, xcat_r, xcat_l, xcat_d, Nat.zero_le, Nat.reduceAdd, Nat.reduceLeDiff, true_and, and_true, ykl_i, ykl_r, ykl_n, ykl_l]
  · have z : ¬ yI L ≤ yI j := fun q => absurd ((yI_le (by omega) (by omega)).mp q) h
    have z2 : (2 : Int32) ≤ yI j := (yI_le (n := 2) (by decide) (by omega)).mpr (by omega)
    simp only [s_244_4, s_244_5, s_244_6, s_244_7, s_244_8, s_244_9, s_244_10, sc, hln_0, z, z2, if_true, if_false, s_244_672, s_244_673, ybo_1, hgf_s, hsel_0, hsel_1, hsel_2, hsel_3, hsel_4, hsel_5, hsel_6, hsel_7, hsel_8, hset_0, hset_1, hset_2, hset_3, hset_4, hset_5, hset_6, hset_7, hset_8, hpf_s, hcl_s, hai_s, hpi_0, hpi_1, hln_0, hln_1, List.length_cons, List.length_nil, xwr_1, xwr_2, xnew_1, xnew_n, xnew_s, xnew_z, Nat.reduceLT, ite_true, and_self, hp_8_0, hp_8_1, hn_8_1, hp_8_2, hn_8_2, hp_9_0, hp_9_1, hp_9_2, hp_9_3, hp_9_4, hp_9_5, hn_9_5, hp_9_6, hn_9_6, hp_9_7, hn_9_7, hp_10_0, hp_10_1, hp_10_2, hn_10_2, hp_10_3, hn_10_3, hp_11_0, hp_12_0, hn_12_0, hp_12_1, hp_12_2, hp_12_3, hp_12_4, hp_12_5, hn_12_5, hp_12_6, hn_12_6, hp_12_7, hp_12_8, hp_13_0, hn_13_0, hp_13_1, hp_13_2, hp_13_3, hp_14_0, hn_14_0, hp_14_1, hp_14_2, hp_14_3, xdef_8, xdef_9, xdef_10, xdef_11, xdef_12, xdef_13, xdef_14, Gk_v, Gk_n, xcat_nil, xcat_i, xcat_r, xcat_l, xcat_d, Nat.zero_le, Nat.reduceAdd, Nat.reduceLeDiff, true_and, and_true, ykl_i, ykl_r, ykl_n, ykl_l]
end
theorem xlaw_all : xLaw := by
  intro L xs hL
  have fin : G (40 + 60) 244 4 [some (.ref 1000000), some (.int 1), some (.int (yI 0)), none, none, none, none, none, none, none, none, none, none, none, none, none, none, none, none, none, none, none, none, none, none, none, none, none, none, none, none, none, none] [] (xs0 L xs) (fun r σ => r = .inl (some (.int 1)) ∧ (σ.2.1.1 ≤ 600086 ∧ σ.2.1.2 ≤ 7301442)) := by
    by_cases h0 : L = 0
    · exact (l_244_e (d := 40) (xs := xs) (Or.inl (Nat.le_of_eq h0)) (by decide) hL rfl).mpr ⟨rfl, Nat.zero_le _, Nat.zero_le _⟩
    · refine l_244_it (d := 40) (i := 0) (by decide) (by omega) hL (fun τ A => ?_)
      intro m3 m4 m5 m6 m7 m8 m9 m10 m11 m12 m13 m14 m15 m16 m17 m18 m19 m20 m21 m22 m23 m24 m25 m26 m27 m28 m29 m30 m31 m32
      have a1 : τ.2.1.1 ≤ 0 + 127000 := A.1.2
      have a2 : τ.2.1.2 ≤ 0 + 480000 := A.2.1
      have a3 : τ.2.2 = (L, xs) := A.2.2
      by_cases h1 : L = 1
      · exact (l_244_e (d := 40) (xs := xs) (Or.inl (Nat.le_of_eq h1)) (by decide) hL a3).mpr ⟨rfl, by omega, by omega⟩
      · have run2 : G (40 + 60) 244 4 [some (.ref 1000000), some (.int 1), some (.int (yI 1)), none, none, none, none, none, none, none, none, none, none, none, none, none, none, none, none, none, none, none, none, none, none, none, none, none, none, none, none, none, none] [] (xs0 L xs) (fun r σ => r = .inl (some (.int 1)) ∧ pFb 127000 480000 (xs0 L xs) σ) :=
          l_244_it (d := 40) (i := 1) (by decide) (by omega) hL (fun υ A2 => by
            intro m3 m4 m5 m6 m7 m8 m9 m10 m11 m12 m13 m14 m15 m16 m17 m18 m19 m20 m21 m22 m23 m24 m25 m26 m27 m28 m29 m30 m31 m32
            exact (l_244_e (d := 40) (xs := xs) (Or.inr (by decide)) (by decide) hL A2.2.2).mpr ⟨rfl, A2⟩)
        obtain ⟨n, r, σ', hx, rfl, hF⟩ := run2
        have f1 : σ'.2.1.1 ≤ 0 + 127000 := hF.1.2
        have f2 : σ'.2.1.2 ≤ 0 + 480000 := hF.2.1
        have hl : shl τ.2.1.1 (xs0 L xs).2.1.1 [some (.ref 1000000), some (.int 1), some (.int (yI 1)), none, none, none, none, none, none, none, none, none, none, none, none, none, none, none, none, none, none, none, none, none, none, none, none, none, none, none, none, none, none] [some (.ref 1000000), some (.int 1), some (.int (yI 1)), m3, m4, m5, m6, m7, m8, m9, m10, m11, m12, m13, m14, m15, m16, m17, m18, m19, m20, m21, m22, m23, m24, m25, m26, m27, m28, m29, m30, m31, m32] := by
          refine ⟨rfl, fun i v hv => ?_⟩
          rcases i with _ | _ | _ | i
          · have h0 : some (some (Value.ref 1000000)) = some (some v) := hv
            have h := Option.some.inj (Option.some.inj h0)
            subst h
            exact ⟨.ref 1000000, rfl, 1000000, rfl, Or.inr ⟨Nat.le_refl _, rfl⟩⟩
          · have h0 : some (some (Value.int 1)) = some (some v) := hv
            have h := Option.some.inj (Option.some.inj h0)
            subst h
            exact ⟨.int 1, rfl, rfl⟩
          · have h0 : some (some (Value.int (yI 1))) = some (some v) := hv
            have h := Option.some.inj (Option.some.inj h0)
            subst h
            exact ⟨.int (yI 1), rfl, rfl⟩
          · have hv' : (List.replicate 30 (none : Option Value))[i]? = some (some v) := hv
            rw [List.getElem?_replicate] at hv'
            split at hv'
            · cases hv'
            · cases hv'
        have hs : shs τ.2.1.1 τ.2.1.2 (xs0 L xs) τ := by
          refine ⟨fun a e he => ?_, ?_, ?_, a3⟩
          · have h : (none : Option xE) = some e := he
            cases h
          · show τ.2.1.1 = 0 + τ.2.1.1
            rw [Nat.zero_add]
          · show τ.2.1.2 = 0 + τ.2.1.2
            rw [Nat.zero_add]
        obtain ⟨r2, τ', hx2, hr2, hs2⟩ := sh_ax n _ _ _ _ _ _ _ _ hx (by omega) _ [] τ hl rfl hs
        obtain ⟨w, rfl, hw⟩ := hr2
        have e1 := hs2.2.1
        have e2 := hs2.2.2.1
        have hw' : w = .int 1 := hw
        exact ⟨n, _, τ', hx2, by rw [hw'], by omega, by omega⟩
  have st : G (40 + 60) 244 0 (xentry [.ref 1000000] 33) [] (xs0 L xs) (fun r σ => r = .inl (some (.int 1)) ∧ (σ.2.1.1 ≤ 600086 ∧ σ.2.1.2 ≤ 7301442)) := by
    show G (40 + 60) 244 0 [some (.ref 1000000), none, none, none, none, none, none, none, none, none, none, none, none, none, none, none, none, none, none, none, none, none, none, none, none, none, none, none, none, none, none, none, none] [] (xs0 L xs) _
    simp only [s_244_0, s_244_1, s_244_2, s_244_3, Gk_v, Gk_n, xcat_nil, xcat_i, xcat_r, xcat_l, xcat_d, Nat.zero_le, Nat.reduceAdd, Nat.reduceLeDiff, true_and, and_true, ykl_i, ykl_r, ykl_n, ykl_l]
    exact fin
  obtain ⟨n, r, σ', hx, hr, hb⟩ := st
  rw [hr] at hx
  exact ⟨n, σ', hx, hb⟩

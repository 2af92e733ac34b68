/-! ===== the law's end: all is undone, the last calls ===== -/
/-- while changes are undone: kk of them are -/
def pUn (M lo hi bf sl : Nat) (σ : xS) (y kk : Nat) : Prop := ∃ D k E s0 s1 B eo en, pI σ D k E s0 s1 0 B eo en ∧ (k + kk = min 8 (y + 1) ∧ ((162 ≤ bf ∧ bf < 1000000) ∧ ∃ gb, σ.1 bf = some (prow 7 9 gb) ∧ ∀ j, j + kk < y → j + kk < 8 → ∃ a, gb (j + kk) = some a ∧ pPk M lo hi bf sl σ a (E j)))
section
variable {d M M' s lo hi c x k bf sl pv p y n : Nat} {σ τ : xS} {R R1 : pR} {cv : Value} {dn' en' eo en i2 yd yn : Int32} {D D1 X X1 : yD} {E E1 : Nat → yD} {s0 s1 s0' s1' : Option yD} {B : Nat → Nat} {Q : xR → xS → Prop} {l10 l11 l12 l13 l14 l15 l16 l17 l18 l19 l20 l21 l22 l23 l24 l25 l26 l27 l28 l29 l30 l31 l32 : Option Value}
theorem pI.o0 {m : Nat} (I : pI σ D k E s0 s1 m B eo en) : ∃ fs, xRd σ 0 = some (.inr (7, fs)) := by
  obtain ⟨t, rfl, -⟩ := I
  exact pO
theorem pcl_w {b : Nat} (q : pcl b) : b < 162 ∨ pin lo hi b := Or.inl (by have := pcl_lt q; omega)
theorem l_244_U (hy : y ≤ 24) : ∀ m kk (σ : xS), kk + m = min 8 y → pUn M lo hi bf sl σ y kk → σ.2.1.1 + 300 * m + 400 < 890000 → (∀ (τ : xS), (∃ D k E s0 s1 B eo en, pI τ D k E s0 s1 0 B eo en) → pFb (280 * m) (840 * m) σ τ → ∀ (l10 l11 l12 l13 l14 l15 l16 l17 l18 l19 l20 l21 l22 l23 l24 l25 l26 l27 l28 l29 l30 l31 l32 : Option Value), G (d + 60) 244 628 [some (.ref 1000000), some (.int 1), some (.int i2), some (.ref 0), some (.ref 160), some (.ref 161), some (.ref s), some (.ref bf), some (.ref sl), some (.int (yI y)), l10, l11, l12, l13, l14, l15, l16, l17, l18, l19, l20, l21, l22, l23, l24, l25, l26, l27, l28, l29, l30, l31, l32] [] τ Q) → ∀ (l11 l12 l13 l14 l15 l16 l17 l18 l19 l20 l21 l22 l23 l24 l25 l26 l27 l28 l29 l30 l31 l32 : Option Value), G (d + 60) 244 605 [some (.ref 1000000), some (.int 1), some (.int i2), some (.ref 0), some (.ref 160), some (.ref 161), some (.ref s), some (.ref bf), some (.ref sl), some (.int (yI y)), some (.int (yI kk)), l11, l12, l13, l14, l15, l16, l17, l18, l19, l20, l21, l22, l23, l24, l25, l26, l27, l28, l29, l30, l31, l32] [] σ Q := by
  intro m
  induction m with
  | zero =>
    intro kk σ hm U hr H l11 l12 l13 l14 l15 l16 l17 l18 l19 l20 l21 l22 l23 l24 l25 l26 l27 l28 l29 l30 l31 l32
    obtain ⟨D, k, E, s0, s1, B, eo, en, I, -⟩ := U
    have K := H σ ⟨D, k, E, s0, s1, B, eo, en, I⟩ ⟨⟨Nat.le_refl _, by omega⟩, by omega, rfl⟩ (some (.int (yI kk))) l11 l12 l13 l14 l15 l16 l17 l18 l19 l20 l21 l22 l23 l24 l25 l26 l27 l28 l29 l30 l31 l32
    by_cases h8 : kk = 8
    · subst h8
      have z : (8 : Int32) ≤ yI 8 := by decide
      simp only [s_244_605, s_244_606, s_244_607, s_244_608, s_244_609, s_244_610, z, if_true]
      exact K
    · have z : ¬ (8 : Int32) ≤ yI kk := fun h => absurd ((yI_le (n := 8) (by decide) (by omega)).mp h) (by omega)
      have z2 : yI y ≤ yI kk := (yI_le (by omega) (by omega)).mpr (by omega)
      simp only [s_244_605, s_244_606, s_244_607, s_244_608, s_244_609, s_244_610, z, z2, if_true, if_false]
      exact K
  | succ m ih =>
    intro kk σ hm U hr H l11 l12 l13 l14 l15 l16 l17 l18 l19 l20 l21 l22 l23 l24 l25 l26 l27 l28 l29 l30 l31 l32
    obtain ⟨D, k, E, s0, s1, B, eo, en, I, hk, hbf, gb, g1, g2⟩ := U
    have z : ¬ (8 : Int32) ≤ yI kk := fun h => absurd ((yI_le (n := 8) (by decide) (by omega)).mp h) (by omega)
    have z2 : ¬ yI y ≤ yI kk := fun h => absurd ((yI_le (by omega) (by omega)).mp h) (by omega)
    have z3 : ¬ yI (k - 1) < 0 := yI_nneg (by omega)
    have z4 : yI kk + 1 = yI (kk + 1) := yI_add
    obtain ⟨τ1, c1, I1, F1⟩ := c_117 (d := d + 57) I (by omega)
    have c1' : Ra (d + 59) 117 [.ref 0] σ (.inl (some (.int (yI (k - 1))))) τ1 := c1
    have Z := I.Z
    have Z1 := I1.Z
    have n1 := F1.2.2.1
    obtain ⟨oo, hoo⟩ := I.o0
    have G1 : pFw lo hi 0 0 σ τ1 := pFw.of F1 (fun _ q => pcl_w q) I.co
    obtain ⟨a, q1, A⟩ := g2 0 (by omega) (by omega)
    rw [Nat.zero_add] at q1
    obtain ⟨R9, cv9, dn9, en9, lo9, hi9, ⟨S9, J9⟩, -, ⟨h9, -⟩, ⟨l9, -⟩, -⟩ := A.keep Z G1
    have a9 := S9.1.1
    obtain ⟨τ2, c2, I2, -, F2⟩ := m_209 (d := d + 52) I1 S9 J9 (by omega) h9 (by omega)
    have c2' : Ra (d + 59) 209 [.ref 0, .ref a] τ1 (.inl (some (.int 1))) τ2 := c2
    have n2 := F2.2.2.1
    have G2 : pFw lo hi 280 840 τ1 τ2 := pFw.of F2 (fun _ q => pcl_w q) I1.co
    have nb : ¬ pcl bf := fun q => by have := pcl_lt q; omega
    have b1 := pF_keep Z F1 g1 nb
    have b2 := pF_keep Z1 F2 b1 nb
    have r1 : xRd τ1 bf = some (prow 7 9 gb) := by rw [yrd_lt hbf.2, b1]
    have i9 : yix (yI kk) 9 := yix_I (by omega) (by omega)
    have ic : (yI kk).toNatClampNeg = kk := yI_clamp (by omega)
    have U2 : pUn M lo hi bf sl τ2 y (kk + 1) := by
      refine ⟨E 0, k - 1, fun j => E (j + 1), s0, s1, B, eo, en, I2, by omega, hbf, gb, b2, fun j h1 h2 => ?_⟩
      obtain ⟨b, q3, q4⟩ := g2 (j + 1) (by omega) (by omega)
      rw [show j + (kk + 1) = j + 1 + kk by omega]
      exact ⟨b, q3, (q4.keep Z G1).keep Z1 G2⟩
    rw [s_244_605]
    simp only [s_244_606, s_244_607, s_244_608, s_244_609, s_244_610, s_244_611, s_244_612, s_244_613, s_244_614, s_244_615, s_244_616, s_244_617, s_244_618, s_244_619, s_244_620, s_244_621, s_244_622, s_244_623, s_244_624, s_244_625, s_244_626, s_244_627, z, z2, z3, z4, hoo, c1' _, r1, i9, ic, q1, a9, c2' _, haa_t hbf.2 (show 4 ≤ 7 ∧ 7 ≤ 8 by decide), hop_s, show ¬ (1 : Int32) = 0 from by decide, if_false, hcl_s, true_and, hgf_s, hsel_0, hsel_1, hsel_2, hsel_3, hsel_4, hsel_5, hsel_6, hsel_7, hsel_8, hset_0, hset_1, hset_2, hset_3, hset_4, hset_5, hset_6, hset_7, hset_8, hpf_s, hcl_s, hai_s, hpi_0, hpi_1, hln_0, hln_1, List.length_cons, List.length_nil, xwr_1, xwr_2, xnew_1, xnew_n, xnew_s, xnew_z, Nat.reduceLT, ite_true, and_self, hp_8_0, hp_8_1, hn_8_1, hp_8_2, hn_8_2, hp_9_0, hp_9_1, hp_9_2, hp_9_3, hp_9_4, hp_9_5, hn_9_5, hp_9_6, hn_9_6, hp_9_7, hn_9_7, hp_10_0, hp_10_1, hp_10_2, hn_10_2, hp_10_3, hn_10_3, hp_11_0, hp_12_0, hn_12_0, hp_12_1, hp_12_2, hp_12_3, hp_12_4, hp_12_5, hn_12_5, hp_12_6, hn_12_6, hp_12_7, hp_12_8, hp_13_0, hn_13_0, hp_13_1, hp_13_2, hp_13_3, hp_14_0, hn_14_0, hp_14_1, hp_14_2, hp_14_3, xdef_8, xdef_9, xdef_10, xdef_11, xdef_12, xdef_13, xdef_14, Gk_v, Gk_n, xcat_nil, xcat_i, xcat_r, xcat_l, xcat_d, Nat.zero_le, Nat.reduceAdd, Nat.reduceLeDiff, true_and, and_true, ykl_i, ykl_r, ykl_n, ykl_l]
    refine ih (kk + 1) τ2 (by omega) U2 (by omega) (fun υ hI Fb => ?_) _ _ _ _ _ _ _ _ _ _ _ _ _ _ _ _ _ _ _ _ _ _
    exact H υ hI (pFb.mono (pFb.trans (pFb.trans F1.2.2 F2.2.2) Fb) (by omega) (by omega))
/-- the last calls -/
theorem l_244_f (I : pI σ D k E s0 s1 0 B eo en) (hr : σ.2.1.1 + 100 < 890000) (H : ∀ (τ : xS), pFb 10 60 σ τ → ∀ (m3 m4 m5 m6 m7 m8 m9 l10 l11 l12 l13 l14 l15 l16 l17 l18 l19 l20 l21 l22 l23 l24 l25 l26 l27 l28 l29 l30 l31 l32 : Option Value), G (d + 60) 244 4 [some (.ref 1000000), some (.int 1), some (.int (i2 + 1)), m3, m4, m5, m6, m7, m8, m9, l10, l11, l12, l13, l14, l15, l16, l17, l18, l19, l20, l21, l22, l23, l24, l25, l26, l27, l28, l29, l30, l31, l32] [] τ Q) : G (d + 60) 244 628 [some (.ref 1000000), some (.int 1), some (.int i2), some (.ref 0), some (.ref 160), some (.ref 161), some (.ref s), some (.ref bf), some (.ref sl), some (.int yd), l10, l11, l12, l13, l14, l15, l16, l17, l18, l19, l20, l21, l22, l23, l24, l25, l26, l27, l28, l29, l30, l31, l32] [] σ Q := by
  obtain ⟨τ1, c1, I1, F1⟩ := c_184t (d := d + 41) I (by omega) rfl
  have c1' : Ra (d + 59) 184 [.ref 0, .int 1] σ (.inl (some (.int (-2000000098)))) τ1 := c1
  have n1 := F1.2.2.1
  obtain ⟨τ2, c2, I2, F2⟩ := c_185t (d := d + 36) I1 (by omega)
  have c2' : Ra (d + 59) 185 [.ref 0, .int (-1)] τ1 (.inl (some (.int (-2000000098)))) τ2 := c2
  have n2 := F2.2.2.1
  obtain ⟨τ3, c3, I3, F3⟩ := c_194t (d := d + 56) I2 (by omega)
  have c3' : Ra (d + 59) 194 [.ref 0, .int 10000] τ2 (.inl (some (.int (-2000000098)))) τ3 := c3
  have n3 := F3.2.2.1
  have n40 := I3.ok.n40
  obtain ⟨τ4, c4, I4, F4⟩ := c_189t (d := d + 53) I3 (by omega) (p := 40) (by omega) (by decide)
  have c4' : Ra (d + 59) 189 [.ref 0, .int 40] τ3 (.inl (some (.int (-2000000097)))) τ4 := c4
  have n4 := F4.2.2.1
  obtain ⟨τ5, c5, I5, F5⟩ := c_190t (d := d + 55) I4 (by omega)
  have c5' : Ra (d + 59) 190 [.ref 0, .int (-1)] τ4 (.inl (some (.int (-2000000097)))) τ5 := c5
  have n5 := F5.2.2.1
  obtain ⟨τ6, c6, I6, F6⟩ := c_191t (d := d + 54) I5 (by omega)
  have c6' : Ra (d + 59) 191 [.ref 0, .int 21] τ5 (.inl (some (.int (-2000000098)))) τ6 := c6
  have n6 := F6.2.2.1
  obtain ⟨τ7, c7, I7, F7⟩ := c_192t (d := d + 53) I6 (by omega)
  have c7' : Ra (d + 59) 192 [.ref 0, .int 11] τ6 (.inl (some (.long (-2000000098)))) τ7 := c7
  simp only [s_244_628, s_244_629, s_244_630, s_244_631, s_244_632, s_244_633, s_244_634, s_244_635, s_244_636, s_244_637, s_244_638, s_244_639, s_244_640, s_244_641, s_244_642, s_244_643, s_244_644, s_244_645, s_244_646, s_244_647, s_244_648, s_244_649, s_244_650, s_244_651, s_244_652, s_244_653, c1' _, c2' _, c3' _, c4' _, c5' _, show ¬ (1 : Int32) = 0 from by decide, ne_eq, not_true_eq_false, if_false, hcl_s, true_and, hgf_s, hsel_0, hsel_1, hsel_2, hsel_3, hsel_4, hsel_5, hsel_6, hsel_7, hsel_8, hset_0, hset_1, hset_2, hset_3, hset_4, hset_5, hset_6, hset_7, hset_8, hpf_s, hcl_s, hai_s, hpi_0, hpi_1, hln_0, hln_1, List.length_cons, List.length_nil, xwr_1, xwr_2, xnew_1, xnew_n, xnew_s, xnew_z, Nat.reduceLT, ite_true, and_self, hp_8_0, hp_8_1, hn_8_1, hp_8_2, hn_8_2, hp_9_0, hp_9_1, hp_9_2, hp_9_3, hp_9_4, hp_9_5, hn_9_5, hp_9_6, hn_9_6, hp_9_7, hn_9_7, hp_10_0, hp_10_1, hp_10_2, hn_10_2, hp_10_3, hn_10_3, hp_11_0, hp_12_0, hn_12_0, hp_12_1, hp_12_2, hp_12_3, hp_12_4, hp_12_5, hn_12_5, hp_12_6, hn_12_6, hp_12_7, hp_12_8, hp_13_0, hn_13_0, hp_13_1, hp_13_2, hp_13_3, hp_14_0, hn_14_0, hp_14_1, hp_14_2, hp_14_3, xdef_8, xdef_9, xdef_10, xdef_11, xdef_12, xdef_13, xdef_14, Gk_v, Gk_n, xcat_nil, xcat_i, xcat_r, xcat_l, xcat_d, Nat.zero_le, Nat.reduceAdd, Nat.reduceLeDiff, true_and, and_true, ykl_i, ykl_r, ykl_n, ykl_l]
  simp only [s_244_654, s_244_655, s_244_656, s_244_657, s_244_658, s_244_659, s_244_660, s_244_661, s_244_662, s_244_663, s_244_664, s_244_665, s_244_666, s_244_667, s_244_668, s_244_669, s_244_670, s_244_671, c6' _, c7' _, pcmp0, show ¬ (1 : Int32) = 0 from by decide, ne_eq, not_true_eq_false, if_false, hcl_s, true_and, hgf_s, hsel_0, hsel_1, hsel_2, hsel_3, hsel_4, hsel_5, hsel_6, hsel_7, hsel_8, hset_0, hset_1, hset_2, hset_3, hset_4, hset_5, hset_6, hset_7, hset_8, hpf_s, hcl_s, hai_s, hpi_0, hpi_1, hln_0, hln_1, List.length_cons, List.length_nil, xwr_1, xwr_2, xnew_1, xnew_n, xnew_s, xnew_z, Nat.reduceLT, ite_true, and_self, hp_8_0, hp_8_1, hn_8_1, hp_8_2, hn_8_2, hp_9_0, hp_9_1, hp_9_2, hp_9_3, hp_9_4, hp_9_5, hn_9_5, hp_9_6, hn_9_6, hp_9_7, hn_9_7, hp_10_0, hp_10_1, hp_10_2, hn_10_2, hp_10_3, hn_10_3, hp_11_0, hp_12_0, hn_12_0, hp_12_1, hp_12_2, hp_12_3, hp_12_4, hp_12_5, hn_12_5, hp_12_6, hn_12_6, hp_12_7, hp_12_8, hp_13_0, hn_13_0, hp_13_1, hp_13_2, hp_13_3, hp_14_0, hn_14_0, hp_14_1, hp_14_2, hp_14_3, xdef_8, xdef_9, xdef_10, xdef_11, xdef_12, xdef_13, xdef_14, Gk_v, Gk_n, xcat_nil, xcat_i, xcat_r, xcat_l, xcat_d, Nat.zero_le, Nat.reduceAdd, Nat.reduceLeDiff, true_and, and_true, ykl_i, ykl_r, ykl_n, ykl_l]
  exact H τ7 (pFb.mono ((((((pFb.trans F1.2.2 F2.2.2).trans F3.2.2).trans F4.2.2).trans F5.2.2).trans F6.2.2).trans F7.2.2) (by omega) (by omega)) _ _ _ _ _ _ _ _ _ _ _ _ _ _ _ _ _ _ _ _ _ _ _ _ _ _ _ _ _ _
end

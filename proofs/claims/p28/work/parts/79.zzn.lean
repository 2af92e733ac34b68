/-! ===== the law's loop: a round ===== -/
section
variable {d M M' s lo hi c x k bf sl pv p y n : Nat} {σ τ : xS} {R R1 : pR} {cv : Value} {dn' en' eo en i2 yd yn : Int32} {D D1 X X1 : yD} {E E1 : Nat → yD} {s0 s1 s0' s1' : Option yD} {Q : xR → xS → Prop} {l11 l12 l13 l14 l15 l16 l17 l18 l19 l20 l21 l22 l23 l24 l25 l26 l27 l28 l29 l30 l31 l32 : Option Value}
/-- a pixel -/
theorem l_244_p (W : pWo M s lo hi σ R cv dn' en' D k E s0 s1 eo en D) : ∃ τ p, p ≤ D.n ∧ ((∀ Q, G (d + 60) 244 144 [some (.ref 1000000), some (.int 1), some (.int i2), some (.ref 0), some (.ref 160), some (.ref 161), some (.ref s), some (.ref bf), some (.ref sl), some (.int yd), some (.int yn), some (.ref pv), some (.int 1), some (.int (yI D.n)), l14, l15, l16, l17, l18, l19, l20, l21, l22, l23, l24, l25, l26, l27, l28, l29, l30, l31, l32] [] σ Q ↔ G (d + 60) 244 163 [some (.ref 1000000), some (.int 1), some (.int i2), some (.ref 0), some (.ref 160), some (.ref 161), some (.ref s), some (.ref bf), some (.ref sl), some (.int yd), some (.int yn), some (.ref pv), some (.int 1), some (.int (yI D.n)), some (.int (yI p)), some (.int (yb (decide (p < D.n)))), l16, l17, l18, l19, l20, l21, l22, l23, l24, l25, l26, l27, l28, l29, l30, l31, l32] [] τ Q) ∧ ((pWo M s lo hi τ R cv dn' en' D k E s0 s1 eo en D ∧ pFw lo hi 0 0 σ τ) ∧ τ.2 = σ.2)) := by
  have h1 := W.ok.n1
  have h9 := W.h9
  obtain ⟨v, σ1, hv, g1, ⟨W1, F1⟩, q1, e1⟩ := W.go (d := d + 59) (m := 9) (by decide) (by decide)
  have g1' : Ra (d + 59) 131 [.ref 161, .int 9] σ (.inl (some (.int (yI v)))) σ1 := g1
  obtain ⟨or1, hor1⟩ := W.or
  obtain ⟨or2, hor2⟩ := W1.or
  have fin : ∀ (σ2 : xS) p, p ≤ D.n → ∀ Q, G (d + 60) 244 156 [some (.ref 1000000), some (.int 1), some (.int i2), some (.ref 0), some (.ref 160), some (.ref 161), some (.ref s), some (.ref bf), some (.ref sl), some (.int yd), some (.int yn), some (.ref pv), some (.int 1), some (.int (yI D.n)), some (.int (yI p)), l15, l16, l17, l18, l19, l20, l21, l22, l23, l24, l25, l26, l27, l28, l29, l30, l31, l32] [] σ2 Q ↔ G (d + 60) 244 163 [some (.ref 1000000), some (.int 1), some (.int i2), some (.ref 0), some (.ref 160), some (.ref 161), some (.ref s), some (.ref bf), some (.ref sl), some (.int yd), some (.int yn), some (.ref pv), some (.int 1), some (.int (yI D.n)), some (.int (yI p)), some (.int (yb (decide (p < D.n)))), l16, l17, l18, l19, l20, l21, l22, l23, l24, l25, l26, l27, l28, l29, l30, l31, l32] [] σ2 Q := by
    intro σ2 p hp Q
    by_cases hp2 : p < D.n
    · have z : ¬ yI D.n ≤ yI p := fun h => absurd ((yI_le (by omega) (by omega)).mp h) (by omega)
      rw [decide_eq_true hp2]
      simp only [s_244_156, s_244_157, s_244_158, s_244_159, s_244_160, s_244_161, s_244_162, z, show yb true = 1 from rfl, if_false, Gk_v, Gk_n, xcat_nil, xcat_i, xcat_r, xcat_l, xcat_d, Nat.zero_le, Nat.reduceAdd, Nat.reduceLeDiff, true_and, and_true, ykl_i, ykl_r, ykl_n, ykl_l]
    · have z : yI D.n ≤ yI p := (yI_le (by omega) (by omega)).mpr (by omega)
      rw [decide_eq_false hp2]
      simp only [s_244_156, s_244_157, s_244_158, s_244_159, s_244_160, s_244_161, s_244_162, z, show yb false = 0 from rfl, if_true, Gk_v, Gk_n, xcat_nil, xcat_i, xcat_r, xcat_l, xcat_d, Nat.zero_le, Nat.reduceAdd, Nat.reduceLeDiff, true_and, and_true, ykl_i, ykl_r, ykl_n, ykl_l]
  by_cases hv0 : v = 0
  · subst hv0
    obtain ⟨p, σ2, hp, g2, ⟨W2, F2⟩, q2, e2⟩ := W1.go (d := d + 59) (m := D.n + 1) (by omega) (by omega)
    have z : yI 0 = 0 := rfl
    have ad : yI D.n + 1 = yI (D.n + 1) := yI_add
    refine ⟨σ2, p, by omega, fun Q => Iff.trans ?_ (fin σ2 p (by omega) Q), ⟨W2, F1.trans W.Z F2⟩, by rw [e2, e1]⟩
    simp only [s_244_144, s_244_145, s_244_146, s_244_147, s_244_148, s_244_149, s_244_150, s_244_151, s_244_152, s_244_153, s_244_154, s_244_155, hor1, g1' _, hor2, g2 _, z, ad, ne_eq, not_true_eq_false, if_false, hcl_s, true_and, Gk_v, Gk_n, xcat_nil, xcat_i, xcat_r, xcat_l, xcat_d, Nat.zero_le, Nat.reduceAdd, Nat.reduceLeDiff, true_and, and_true, ykl_i, ykl_r, ykl_n, ykl_l]
  · obtain ⟨p, σ2, hp, g2, ⟨W2, F2⟩, q2, e2⟩ := W1.go (d := d + 59) (m := D.n) (by omega) (by omega)
    have z : ¬ yI v = 0 := fun e => hv0 ((yI_inj (m := 0) (by omega) (by decide)).mp e)
    have ad : yI D.n + 0 = yI D.n := Int32.add_zero _
    refine ⟨σ2, p, by omega, fun Q => Iff.trans ?_ (fin σ2 p (by omega) Q), ⟨W2, F1.trans W.Z F2⟩, by rw [e2, e1]⟩
    simp only [s_244_144, s_244_145, s_244_146, s_244_147, s_244_148, s_244_149, s_244_150, s_244_151, s_244_152, s_244_153, s_244_154, s_244_155, hor1, g1' _, hor2, g2 _, z, ad, ne_eq, not_false_eq_true, if_true, hcl_s, true_and, Gk_v, Gk_n, xcat_nil, xcat_i, xcat_r, xcat_l, xcat_d, Nat.zero_le, Nat.reduceAdd, Nat.reduceLeDiff, true_and, and_true, ykl_i, ykl_r, ykl_n, ykl_l]
/-- a round -/
theorem l_244_s (L : pLw M bf sl σ y s) (hn : n < 24) (hM : M + 600 < 1000000) (hr : σ.2.1.1 + 5600 < 890000) (H : ∀ τ y' s', y' ≤ y + 1 → pLw (M + 201) bf sl τ y' s' → pFb 5100 18500 σ τ → ∀ (l11 l12 l13 l14 l15 l16 l17 l18 l19 l20 l21 l22 l23 l24 l25 l26 l27 l28 l29 l30 l31 l32 : Option Value), G (d + 60) 244 130 [some (.ref 1000000), some (.int 1), some (.int i2), some (.ref 0), some (.ref 160), some (.ref 161), some (.ref s'), some (.ref bf), some (.ref sl), some (.int (yI y')), some (.int (yI (n + 1))), l11, l12, l13, l14, l15, l16, l17, l18, l19, l20, l21, l22, l23, l24, l25, l26, l27, l28, l29, l30, l31, l32] [] τ Q) : G (d + 60) 244 130 [some (.ref 1000000), some (.int 1), some (.int i2), some (.ref 0), some (.ref 160), some (.ref 161), some (.ref s), some (.ref bf), some (.ref sl), some (.int (yI y)), some (.int (yI n)), l11, l12, l13, l14, l15, l16, l17, l18, l19, l20, l21, l22, l23, l24, l25, l26, l27, l28, l29, l30, l31, l32] [] σ Q := by
  obtain ⟨lo, hi, R, cv, dn, en, D, k, E, s0, s1, eo, en1, W, K, hk⟩ := L
  have Z := W.Z
  obtain ⟨τ1, g1, ⟨W1, F1⟩, A1⟩ := W.cop (d := d + 57) (K.lt Z) (by omega)
  have g1' : Ra (d + 59) 133 [.ref s] σ (.inl (some (.ref σ.2.1.1))) τ1 := g1
  have n1 := F1.2.2.1
  have K1 := K.keep Z F1
  obtain ⟨pv, hpv⟩ : ∃ pv, pv = σ.2.1.1 := ⟨_, rfl⟩
  rw [← hpv] at g1' A1
  have hp6 : pv < 1000000 := by omega
  obtain ⟨τ2, p, hp, st2, ⟨W2, F2⟩, e2⟩ := l_244_p (d := d) (i2 := i2) (bf := bf) (sl := sl) (yd := yI y) (yn := yI n) (pv := pv) (l14 := l14) (l15 := l15) (l16 := l16) (l17 := l17) (l18 := l18) (l19 := l19) (l20 := l20) (l21 := l21) (l22 := l22) (l23 := l23) (l24 := l24) (l25 := l25) (l26 := l26) (l27 := l27) (l28 := l28) (l29 := l29) (l30 := l30) (l31 := l31) (l32 := l32) W1
  obtain ⟨w, τ3, hw, g3, ⟨W3, F3⟩, q3, e3⟩ := W2.go (d := d + 59) (m := 11) (by decide) (by decide)
  have g3' : Ra (d + 59) 131 [.ref 161, .int 11] τ2 (.inl (some (.int (yI w)))) τ3 := g3
  obtain ⟨or2, hor2⟩ := W2.or
  have n3 : τ3.2.1.1 = τ1.2.1.1 := by rw [e3, e2]
  have K3 := (K1.keep W1.Z F2).keep W2.Z F3
  have P3 := (A1.keep W1.Z F2).keep W2.Z F3
  have h9 := W3.h9
  have Ft : pFb 60 250 σ τ3 := pFb.mono ((pFb.trans F1.2.2 F2.2.2).trans F3.2.2) (by omega) (by omega)
  have tl : ∀ (τ : xS) ch s', pAf (M + 201) bf sl τ pv y D k E ch s' → pFb 4700 17000 τ3 τ → ∀ (l13 l14 l15 l16 l17 l18 l19 l20 l21 l22 l23 l24 l25 l26 l27 l28 l29 l30 l31 l32 : Option Value), G (d + 60) 244 570 [some (.ref 1000000), some (.int 1), some (.int i2), some (.ref 0), some (.ref 160), some (.ref 161), some (.ref s'), some (.ref bf), some (.ref sl), some (.int (yI y)), some (.int (yI n)), some (.ref pv), some (.int (yb ch)), l13, l14, l15, l16, l17, l18, l19, l20, l21, l22, l23, l24, l25, l26, l27, l28, l29, l30, l31, l32] [] τ Q := by
    intro τ ch s' A Fb l13 l14 l15 l16 l17 l18 l19 l20 l21 l22 l23 l24 l25 l26 l27 l28 l29 l30 l31 l32
    exact l_244_t A hk (by have := Fb.1.2; omega) (fun τ' y' hy' L' Fb' => H τ' y' s' hy' L' (pFb.mono ((pFb.trans Ft Fb).trans Fb') (by omega) (by omega)))
  have tr : ∀ (τ : xS) ch, pRes M s lo hi τ3 τ D k E s0 s1 ch → ∀ (l13 l14 l15 l16 l17 l18 l19 l20 l21 l22 l23 l24 l25 l26 l27 l28 l29 l30 l31 l32 : Option Value), G (d + 60) 244 570 [some (.ref 1000000), some (.int 1), some (.int i2), some (.ref 0), some (.ref 160), some (.ref 161), some (.ref s), some (.ref bf), some (.ref sl), some (.int (yI y)), some (.int (yI n)), some (.ref pv), some (.int (yb ch)), l13, l14, l15, l16, l17, l18, l19, l20, l21, l22, l23, l24, l25, l26, l27, l28, l29, l30, l31, l32] [] τ Q := by
    intro τ ch A
    obtain ⟨B1, B2⟩ := A.af W3.Z K3 P3
    exact tl τ ch s B1 B2
  obtain ⟨gg, r1, r2⟩ := W1.S.lrow
  have z24 : ¬ (24 : Int32) ≤ yI n := fun h => absurd ((yI_le (n := 24) (by decide) (by omega)).mp h) (by omega)
  simp only [s_244_130, s_244_131, s_244_132, s_244_133, s_244_134, s_244_135, s_244_136, s_244_137, s_244_138, s_244_139, s_244_140, s_244_141, s_244_142, s_244_143, z24, g1' _, hp6, W.ob, W1.ob, r1, hln_r W1.S.lr0 (show 4 ≤ 6 ∧ 6 ≤ 8 by decide), show ¬ (1 : Int32) = 0 from by decide, if_false, hcl_s, true_and, hgf_s, hsel_0, hsel_1, hsel_2, hsel_3, hsel_4, hsel_5, hsel_6, hsel_7, hsel_8, hset_0, hset_1, hset_2, hset_3, hset_4, hset_5, hset_6, hset_7, hset_8, hpf_s, hcl_s, hai_s, hpi_0, hpi_1, hln_0, hln_1, List.length_cons, List.length_nil, xwr_1, xwr_2, xnew_1, xnew_n, xnew_s, xnew_z, Nat.reduceLT, ite_true, and_self, hp_8_0, hp_8_1, hn_8_1, hp_8_2, hn_8_2, hp_9_0, hp_9_1, hp_9_2, hp_9_3, hp_9_4, hp_9_5, hn_9_5, hp_9_6, hn_9_6, hp_9_7, hn_9_7, hp_10_0, hp_10_1, hp_10_2, hn_10_2, hp_10_3, hn_10_3, hp_11_0, hp_12_0, hn_12_0, hp_12_1, hp_12_2, hp_12_3, hp_12_4, hp_12_5, hn_12_5, hp_12_6, hn_12_6, hp_12_7, hp_12_8, hp_13_0, hn_13_0, hp_13_1, hp_13_2, hp_13_3, hp_14_0, hn_14_0, hp_14_1, hp_14_2, hp_14_3, xdef_8, xdef_9, xdef_10, xdef_11, xdef_12, xdef_13, xdef_14, Gk_v, Gk_n, xcat_nil, xcat_i, xcat_r, xcat_l, xcat_d, Nat.zero_le, Nat.reduceAdd, Nat.reduceLeDiff, true_and, and_true, ykl_i, ykl_r, ykl_n, ykl_l]
  refine (st2 Q).mpr ?_
  simp only [s_244_163, s_244_164, s_244_165, hor2, g3' _, hcl_s, true_and, Gk_v, Gk_n, xcat_nil, xcat_i, xcat_r, xcat_l, xcat_d, Nat.zero_le, Nat.reduceAdd, Nat.reduceLeDiff, true_and, and_true, ykl_i, ykl_r, ykl_n, ykl_l]
  rcases (by omega : w = 0 ∨ w = 1 ∨ w = 2 ∨ w = 3 ∨ w = 4 ∨ w = 5 ∨ w = 6 ∨ w = 7 ∨ w = 8 ∨ w = 9 ∨ w = 10) with rfl | rfl | rfl | rfl | rfl | rfl | rfl | rfl | rfl | rfl | rfl
  · exact s_244_166_0.mpr (l_244_0 W3 (by omega) (by omega) tr)
  · exact s_244_166_1.mpr (l_244_1 W3 (by omega) tr)
  · exact s_244_166_2.mpr (l_244_2 W3 (by omega) tr)
  · exact s_244_166_3.mpr (l_244_3 W3 (by omega) (by omega) tr)
  · exact s_244_166_4.mpr (l_244_3 W3 (by omega) (by omega) tr)
  · exact s_244_166_5.mpr (l_244_5 W3 (by omega) (by omega) tr)
  · exact s_244_166_6.mpr (l_244_6 W3 (by omega) (by omega) tr)
  · exact s_244_166_7.mpr (l_244_7 W3 (by omega) tr)
  · exact s_244_166_8.mpr (l_244_8 W3 (by omega) (by omega) tr)
  · exact s_244_166_9.mpr (l_244_9 W3 K3 P3 (by omega) tl)
  · exact (s_244_166_d (Or.inr (by decide))).mpr (l_244_10 W3 K3 P3 (by omega) tl)
set_option maxRecDepth 20000 in
/-- all rounds -/
theorem l_244_L : ∀ m n M (σ : xS) y s, pLw M bf sl σ y s → n + m = 24 → y ≤ n → M + 201 * m + 600 < 1000000 → σ.2.1.1 + 5100 * m + 600 < 890000 → (∀ τ y' s', y' ≤ 24 → pLw (M + 201 * m) bf sl τ y' s' → pFb (5100 * m) (18500 * m) σ τ → ∀ (l10 l11 l12 l13 l14 l15 l16 l17 l18 l19 l20 l21 l22 l23 l24 l25 l26 l27 l28 l29 l30 l31 l32 : Option Value), G (d + 60) 244 603 [some (.ref 1000000), some (.int 1), some (.int i2), some (.ref 0), some (.ref 160), some (.ref 161), some (.ref s'), some (.ref bf), some (.ref sl), some (.int (yI y')), l10, l11, l12, l13, l14, l15, l16, l17, l18, l19, l20, l21, l22, l23, l24, l25, l26, l27, l28, l29, l30, l31, l32] [] τ Q) → ∀ (l11 l12 l13 l14 l15 l16 l17 l18 l19 l20 l21 l22 l23 l24 l25 l26 l27 l28 l29 l30 l31 l32 : Option Value), G (d + 60) 244 130 [some (.ref 1000000), some (.int 1), some (.int i2), some (.ref 0), some (.ref 160), some (.ref 161), some (.ref s), some (.ref bf), some (.ref sl), some (.int (yI y)), some (.int (yI n)), l11, l12, l13, l14, l15, l16, l17, l18, l19, l20, l21, l22, l23, l24, l25, l26, l27, l28, l29, l30, l31, l32] [] σ Q := by
  intro m
  induction m with
  | zero =>
    intro n M σ y s L hnm hy hM hr H l11 l12 l13 l14 l15 l16 l17 l18 l19 l20 l21 l22 l23 l24 l25 l26 l27 l28 l29 l30 l31 l32
    have en : n = 24 := by omega
    subst en
    have z24 : (24 : Int32) ≤ yI 24 := by decide
    simp only [s_244_130, s_244_131, s_244_132, z24, if_true]
    exact H σ y s hy L ⟨⟨Nat.le_refl _, by omega⟩, by omega, rfl⟩ _ _ _ _ _ _ _ _ _ _ _ _ _ _ _ _ _ _ _ _ _ _ _
  | succ m ih =>
    intro n M σ y s L hnm hy hM hr H l11 l12 l13 l14 l15 l16 l17 l18 l19 l20 l21 l22 l23 l24 l25 l26 l27 l28 l29 l30 l31 l32
    have h5 : 5100 * (m + 1) = 5100 * m + 5100 := Nat.mul_succ 5100 m
    have h2 : 201 * (m + 1) = 201 * m + 201 := Nat.mul_succ 201 m
    have h8 : 18500 * (m + 1) = 18500 * m + 18500 := Nat.mul_succ 18500 m
    rw [h2] at hM H
    rw [h5] at hr H
    rw [h8] at H
    obtain ⟨c5, e5⟩ : ∃ c5, c5 = 5100 * m := ⟨_, rfl⟩
    obtain ⟨c2, e2⟩ : ∃ c2, c2 = 201 * m := ⟨_, rfl⟩
    obtain ⟨c8, e8⟩ : ∃ c8, c8 = 18500 * m := ⟨_, rfl⟩
    rw [← e2] at hM H
    rw [← e5] at hr H
    rw [← e8] at H
    refine l_244_s L (by omega) (by omega) (by omega) (fun τ y' s' hy' L' Fb => ?_)
    have f1 := Fb.1.2
    refine ih (n + 1) (M + 201) τ y' s' L' (by omega) (by omega) (by rw [← e2]; omega) (by rw [← e5]; omega) (fun υ y2 s2 hy2 L2 Fb2 => ?_)
    rw [← e2] at L2
    rw [← e5, ← e8] at Fb2
    have e : M + 201 + c2 = M + (c2 + 201) := by omega
    rw [e] at L2
    exact H υ y2 s2 hy2 L2 (pFb.mono (pFb.trans Fb Fb2) (by omega) (by omega))
end

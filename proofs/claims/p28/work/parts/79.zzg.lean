/-! ===== the law's loop: level, shows ===== -/
section
variable {d M M' s lo hi c x k bf sl pv : Nat} {σ τ : xS} {R R1 : pR} {cv : Value} {dn' en' eo en i2 yd yn : Int32} {D D1 X X1 : yD} {E E1 : Nat → yD} {s0 s1 s0' s1' : Option yD} {Q : xR → xS → Prop} {l12 l13 l14 l15 l16 l17 l18 l19 l20 l21 l22 l23 l24 l25 l26 l27 l28 l29 l30 l31 l32 : Option Value}
/-- level -/
theorem l_244_2 (W : pWo M s lo hi σ R cv dn' en' D k E s0 s1 eo en D) (hr : σ.2.1.1 + 5000 < 890000) (H : ∀ τ ch, pRes M s lo hi σ τ D k E s0 s1 ch → ∀ (l13 l14 l15 l16 l17 l18 l19 l20 l21 l22 l23 l24 l25 l26 l27 l28 l29 l30 l31 l32 : Option Value), G (d + 60) 244 570 [some (.ref 1000000), some (.int 1), some (.int i2), some (.ref 0), some (.ref 160), some (.ref 161), some (.ref s), some (.ref bf), some (.ref sl), some (.int yd), some (.int yn), some (.ref pv), some (.int (yb ch)), l13, l14, l15, l16, l17, l18, l19, l20, l21, l22, l23, l24, l25, l26, l27, l28, l29, l30, l31, l32] [] τ Q) : G (d + 60) 244 263 [some (.ref 1000000), some (.int 1), some (.int i2), some (.ref 0), some (.ref 160), some (.ref 161), some (.ref s), some (.ref bf), some (.ref sl), some (.int yd), some (.int yn), some (.ref pv), some (.int 1), l13, l14, l15, l16, l17, l18, l19, l20, l21, l22, l23, l24, l25, l26, l27, l28, l29, l30, l31, l32] [] σ Q := by
  obtain ⟨v, σ1, hv, g1, ⟨W1, F1⟩, q1, e1⟩ := W.go (d := d + 59) (m := 260) (by decide) (by decide)
  have g1' : Ra (d + 59) 131 [.ref 161, .int 260] σ (.inl (some (.int (yI v)))) σ1 := g1
  have n1 : σ1.2.1.1 = σ.2.1.1 := by rw [e1]
  obtain ⟨or1, hor1⟩ := W.or
  by_cases hl : v < 256
  · have z : ¬ (256 : Int32) ≤ yI v := fun h => absurd ((yI_le (n := 256) (by decide) (by omega)).mp h) (by omega)
    have U := W1.u.strip (D' := D.slv (yI v)) (dn' := dn') (en' := en') rfl rfl rfl rfl (fun _ => ⟨rfl, rfl, rfl, rfl, rfl, rfl, rfl, rfl, rfl, rfl, rfl⟩) rfl
    obtain ⟨W2, F2⟩ := W1.law (M' := M + 201) U (yDok_slv W1.ok hl) rfl rfl rfl (pfr_mono W1.pf (by omega))
    obtain ⟨oo, hoo⟩ := W2.o0
    have o1 := W1.ob
    have s9 := W1.s6
    have c1 := W1.S.1.2
    obtain ⟨σ2, e2⟩ : ∃ σ2, σ2 = xwr σ1 s (.inr (12, [.ref R.lr, .int D.un, .int (yI v), .int D.sh, .int D.ac, .ref R.fr, cv, .int dn', .int en'])) := ⟨_, rfl⟩
    have e2' : xwr σ1 s (.inr (12, [.ref R.lr, .int (D.slv (yI v)).un, .int (D.slv (yI v)).lv, .int (D.slv (yI v)).sh, .int (D.slv (yI v)).ac, .ref R.fr, cv, .int dn', .int en'])) = σ2 := e2.symm
    rw [e2'] at W2 F2 hoo
    obtain ⟨B, I2⟩ := W2.1
    obtain ⟨τ3, g3, I3, F3⟩ := c_195 (d := d + 56) I2 (l := v) hl
    have g3' : Ra (d + 59) 195 [.ref 0, .int (yI v)] σ2 (.inl (some (.int D.lv))) τ3 := g3
    obtain ⟨W3, F3'⟩ := W2.cls I3 F3
    simp only [s_244_263, s_244_264, s_244_265, s_244_266, s_244_267, s_244_268, s_244_269, s_244_270, s_244_271, s_244_272, s_244_273, s_244_274, s_244_275, s_244_276, s_244_277, s_244_278, s_244_279, s_244_280, s_244_281, hor1, g1' _, o1, c1, s9, z, show yb true = 1 from rfl, ne_eq, show ¬ (1 : Int32) = 0 from by decide, not_true_eq_false, not_false_eq_true, if_true, if_false, hcl_s, true_and, hgf_s, hsel_0, hsel_1, hsel_2, hsel_3, hsel_4, hsel_5, hsel_6, hsel_7, hsel_8, hset_0, hset_1, hset_2, hset_3, hset_4, hset_5, hset_6, hset_7, hset_8, hpf_s, hcl_s, hai_s, hpi_0, hpi_1, hln_0, hln_1, List.length_cons, List.length_nil, xwr_1, xwr_2, xnew_1, xnew_n, xnew_s, xnew_z, Nat.reduceLT, ite_true, and_self, hp_8_0, hp_8_1, hn_8_1, hp_8_2, hn_8_2, hp_9_0, hp_9_1, hp_9_2, hp_9_3, hp_9_4, hp_9_5, hn_9_5, hp_9_6, hn_9_6, hp_9_7, hn_9_7, hp_10_0, hp_10_1, hp_10_2, hn_10_2, hp_10_3, hn_10_3, hp_11_0, hp_12_0, hn_12_0, hp_12_1, hp_12_2, hp_12_3, hp_12_4, hp_12_5, hn_12_5, hp_12_6, hn_12_6, hp_12_7, hp_12_8, hp_13_0, hn_13_0, hp_13_1, hp_13_2, hp_13_3, hp_14_0, hn_14_0, hp_14_1, hp_14_2, hp_14_3, xdef_8, xdef_9, xdef_10, xdef_11, xdef_12, xdef_13, xdef_14, Gk_v, Gk_n, xcat_nil, xcat_i, xcat_r, xcat_l, xcat_d, Nat.zero_le, Nat.reduceAdd, Nat.reduceLeDiff, true_and, and_true, ykl_i, ykl_r, ykl_n, ykl_l]
    rw [← e2]
    simp only [s_244_282, s_244_283, s_244_284, s_244_285, s_244_286, s_244_287, s_244_288, s_244_289, s_244_290, s_244_291, s_244_292, s_244_293, s_244_294, s_244_295, hoo, g3' _, ne_eq, not_true_eq_false, not_false_eq_true, if_true, if_false, hcl_s, true_and, hgf_s, hsel_0, hsel_1, hsel_2, hsel_3, hsel_4, hsel_5, hsel_6, hsel_7, hsel_8, hset_0, hset_1, hset_2, hset_3, hset_4, hset_5, hset_6, hset_7, hset_8, hpf_s, hcl_s, hai_s, hpi_0, hpi_1, hln_0, hln_1, List.length_cons, List.length_nil, xwr_1, xwr_2, xnew_1, xnew_n, xnew_s, xnew_z, Nat.reduceLT, ite_true, and_self, hp_8_0, hp_8_1, hn_8_1, hp_8_2, hn_8_2, hp_9_0, hp_9_1, hp_9_2, hp_9_3, hp_9_4, hp_9_5, hn_9_5, hp_9_6, hn_9_6, hp_9_7, hn_9_7, hp_10_0, hp_10_1, hp_10_2, hn_10_2, hp_10_3, hn_10_3, hp_11_0, hp_12_0, hn_12_0, hp_12_1, hp_12_2, hp_12_3, hp_12_4, hp_12_5, hn_12_5, hp_12_6, hn_12_6, hp_12_7, hp_12_8, hp_13_0, hn_13_0, hp_13_1, hp_13_2, hp_13_3, hp_14_0, hn_14_0, hp_14_1, hp_14_2, hp_14_3, xdef_8, xdef_9, xdef_10, xdef_11, xdef_12, xdef_13, xdef_14, Gk_v, Gk_n, xcat_nil, xcat_i, xcat_r, xcat_l, xcat_d, Nat.zero_le, Nat.reduceAdd, Nat.reduceLeDiff, true_and, and_true, ykl_i, ykl_r, ykl_n, ykl_l]
    exact H τ3 true ⟨R, cv, dn', en', D.slv (yI v), min 8 (k + 1), ypush D E, eo, en, W3, ((F1.trans W.Z F2).trans W.Z F3').mono (by omega) (by omega), Or.inl ⟨rfl, rfl, rfl⟩⟩ _ _ _ _ _ _ _ _ _ _ _ _ _ _ _ _ _ _ _ _
  · have z : (256 : Int32) ≤ yI v := (yI_le (n := 256) (by decide) (by omega)).mpr (by omega)
    obtain ⟨B, I1⟩ := W1.1
    obtain ⟨oo, hoo⟩ := W1.o0
    have o1 := W1.ob
    obtain ⟨τ3, g3, I3, F3⟩ := c_195t (d := d + 56) I1 (by omega) (l := v) hl (by omega)
    have g3' : Ra (d + 59) 195 [.ref 0, .int (yI v)] σ1 (.inl (some (.int (-2000000098)))) τ3 := g3
    obtain ⟨W3, F3'⟩ := W1.cls I3 F3
    simp only [s_244_263, s_244_264, s_244_265, s_244_266, s_244_267, s_244_268, s_244_269, s_244_270, s_244_271, s_244_272, s_244_273, s_244_274, s_244_275, s_244_276, s_244_277, s_244_278, s_244_279, s_244_280, s_244_281, s_244_282, s_244_283, s_244_284, s_244_285, s_244_286, s_244_287, s_244_288, s_244_289, s_244_290, s_244_291, s_244_292, s_244_293, s_244_294, s_244_295, hor1, g1' _, o1, hoo, g3' _, z, ne_eq, not_true_eq_false, not_false_eq_true, if_true, if_false, hcl_s, true_and, hgf_s, hsel_0, hsel_1, hsel_2, hsel_3, hsel_4, hsel_5, hsel_6, hsel_7, hsel_8, hset_0, hset_1, hset_2, hset_3, hset_4, hset_5, hset_6, hset_7, hset_8, hpf_s, hcl_s, hai_s, hpi_0, hpi_1, hln_0, hln_1, List.length_cons, List.length_nil, xwr_1, xwr_2, xnew_1, xnew_n, xnew_s, xnew_z, Nat.reduceLT, ite_true, and_self, hp_8_0, hp_8_1, hn_8_1, hp_8_2, hn_8_2, hp_9_0, hp_9_1, hp_9_2, hp_9_3, hp_9_4, hp_9_5, hn_9_5, hp_9_6, hn_9_6, hp_9_7, hn_9_7, hp_10_0, hp_10_1, hp_10_2, hn_10_2, hp_10_3, hn_10_3, hp_11_0, hp_12_0, hn_12_0, hp_12_1, hp_12_2, hp_12_3, hp_12_4, hp_12_5, hn_12_5, hp_12_6, hn_12_6, hp_12_7, hp_12_8, hp_13_0, hn_13_0, hp_13_1, hp_13_2, hp_13_3, hp_14_0, hn_14_0, hp_14_1, hp_14_2, hp_14_3, xdef_8, xdef_9, xdef_10, xdef_11, xdef_12, xdef_13, xdef_14, Gk_v, Gk_n, xcat_nil, xcat_i, xcat_r, xcat_l, xcat_d, Nat.zero_le, Nat.reduceAdd, Nat.reduceLeDiff, true_and, and_true, ykl_i, ykl_r, ykl_n, ykl_l]
    exact H τ3 false ⟨R, cv, dn', en', D, k, E, eo, en, W3.mono (by omega), (F1.trans W.Z F3').mono (by omega) (by omega), Or.inr ⟨rfl, rfl, rfl⟩⟩ _ _ _ _ _ _ _ _ _ _ _ _ _ _ _ _ _ _ _ _
/-- frames -/
theorem l_244_3a {T : Nat} (hT : T ≤ 4) : ∀ m j M (σ : xS) (R : pR) (X : yD), j + m = T → pWo M s lo hi σ R cv dn' en' D k E s0 s1 eo en X → M + m < 1000000 → σ.2.1.1 + 20 * m < 890000 → ∃ τ R', Gg (d + 60) 244 304 [some (.ref 1000000), some (.int 1), some (.int i2), some (.ref 0), some (.ref 160), some (.ref 161), some (.ref s), some (.ref bf), some (.ref sl), some (.int yd), some (.int yn), some (.ref pv), l12, l13, l14, l15, l16, l17, l18, l19, l20, some (.int (yI T)), some (.int (yI j)), l23, l24, l25, l26, l27, l28, l29, l30, l31, l32] [] σ 311 [some (.ref 1000000), some (.int 1), some (.int i2), some (.ref 0), some (.ref 160), some (.ref 161), some (.ref s), some (.ref bf), some (.ref sl), some (.int yd), some (.int yn), some (.ref pv), l12, l13, l14, l15, l16, l17, l18, l19, l20, some (.int (yI T)), some (.int (yI T)), l23, l24, l25, l26, l27, l28, l29, l30, l31, l32] [] τ ∧ (pWo (M + m) s lo hi τ R' cv dn' en' D k E s0 s1 eo en (yshows m X) ∧ pFw lo hi (20 * m) (72 * m) σ τ) := by
  intro m
  induction m with
  | zero =>
    intro j M σ R X hj W hM hr
    have ej : j = T := by omega
    subst ej
    refine ⟨σ, R, fun Q => ?_, W, pF.rfl'⟩
    rw [s_244_304]
    simp only [s_244_305, s_244_306, Int32.le_refl, if_true]
  | succ m ih =>
    intro j M σ R X hj W hM hr
    have z1 : ¬ yI T ≤ yI j := fun h => absurd ((yI_le (by omega) (by omega)).mp h) (by omega)
    have z4 : yI j + 1 = yI (j + 1) := yI_add
    obtain ⟨τ1, R1, g1, W1, F1⟩ := W.show (d := d + 52) (by omega) (by omega)
    have g1' : Ra (d + 59) 144 [.ref s] σ (.inl none) τ1 := g1
    have n1 := F1.2.2.1
    obtain ⟨τ, R', st, W2, F2⟩ := ih (j + 1) (M + 1) τ1 R1 (yshowD X) (by omega) W1 (by omega) (by omega)
    refine ⟨τ, R', fun Q => ?_, ?_, (F1.trans W.Z F2).mono (by omega) (by omega)⟩
    · refine Iff.trans ?_ (st Q)
      rw [s_244_304]
      simp only [s_244_305, s_244_306, s_244_307, s_244_308, s_244_309, s_244_310, z1, z4, W.ob, g1' _, if_false, hcl_s, true_and, hgf_s, hsel_0, hsel_1, hsel_2, hsel_3, hsel_4, hsel_5, hsel_6, hsel_7, hsel_8, hset_0, hset_1, hset_2, hset_3, hset_4, hset_5, hset_6, hset_7, hset_8, hpf_s, hcl_s, hai_s, hpi_0, hpi_1, hln_0, hln_1, List.length_cons, List.length_nil, xwr_1, xwr_2, xnew_1, xnew_n, xnew_s, xnew_z, Nat.reduceLT, ite_true, and_self, hp_8_0, hp_8_1, hn_8_1, hp_8_2, hn_8_2, hp_9_0, hp_9_1, hp_9_2, hp_9_3, hp_9_4, hp_9_5, hn_9_5, hp_9_6, hn_9_6, hp_9_7, hn_9_7, hp_10_0, hp_10_1, hp_10_2, hn_10_2, hp_10_3, hn_10_3, hp_11_0, hp_12_0, hn_12_0, hp_12_1, hp_12_2, hp_12_3, hp_12_4, hp_12_5, hn_12_5, hp_12_6, hn_12_6, hp_12_7, hp_12_8, hp_13_0, hn_13_0, hp_13_1, hp_13_2, hp_13_3, hp_14_0, hn_14_0, hp_14_1, hp_14_2, hp_14_3, xdef_8, xdef_9, xdef_10, xdef_11, xdef_12, xdef_13, xdef_14, Gk_v, Gk_n, xcat_nil, xcat_i, xcat_r, xcat_l, xcat_d, Nat.zero_le, Nat.reduceAdd, Nat.reduceLeDiff, true_and, and_true, ykl_i, ykl_r, ykl_n, ykl_l]
    · have e : M + 1 + m = M + (m + 1) := by omega
      rw [e] at W2
      exact W2
theorem l_244_3 (W : pWo M s lo hi σ R cv dn' en' D k E s0 s1 eo en D) (hM : M + 300 < 1000000) (hr : σ.2.1.1 + 5000 < 890000) (H : ∀ τ ch, pRes M s lo hi σ τ D k E s0 s1 ch → ∀ (l13 l14 l15 l16 l17 l18 l19 l20 l21 l22 l23 l24 l25 l26 l27 l28 l29 l30 l31 l32 : Option Value), G (d + 60) 244 570 [some (.ref 1000000), some (.int 1), some (.int i2), some (.ref 0), some (.ref 160), some (.ref 161), some (.ref s), some (.ref bf), some (.ref sl), some (.int yd), some (.int yn), some (.ref pv), some (.int (yb ch)), l13, l14, l15, l16, l17, l18, l19, l20, l21, l22, l23, l24, l25, l26, l27, l28, l29, l30, l31, l32] [] τ Q) : G (d + 60) 244 296 [some (.ref 1000000), some (.int 1), some (.int i2), some (.ref 0), some (.ref 160), some (.ref 161), some (.ref s), some (.ref bf), some (.ref sl), some (.int yd), some (.int yn), some (.ref pv), some (.int 1), l13, l14, l15, l16, l17, l18, l19, l20, l21, l22, l23, l24, l25, l26, l27, l28, l29, l30, l31, l32] [] σ Q := by
  obtain ⟨v, σ1, hv, g1, ⟨W1, F1⟩, q1, e1⟩ := W.go (d := d + 59) (m := 4) (by decide) (by decide)
  have g1' : Ra (d + 59) 131 [.ref 161, .int 4] σ (.inl (some (.int (yI v)))) σ1 := g1
  have n1 : σ1.2.1.1 = σ.2.1.1 := by rw [e1]
  obtain ⟨or1, hor1⟩ := W.or
  have ad : (1 : Int32) + yI v = yI (1 + v) := yI_add (n := 1)
  have z0 : yI 0 = 0 := rfl
  obtain ⟨τ2, R2, st2, W2, F2⟩ := l_244_3a (d := d) (i2 := i2) (bf := bf) (sl := sl) (yd := yd) (yn := yn) (pv := pv) (l12 := some (.int 1)) (l13 := l13) (l14 := l14) (l15 := l15) (l16 := l16) (l17 := l17) (l18 := l18) (l19 := l19) (l20 := ykl l20) (l23 := l23) (l24 := l24) (l25 := l25) (l26 := l26) (l27 := l27) (l28 := l28) (l29 := l29) (l30 := l30) (l31 := l31) (l32 := l32) (T := 1 + v) (by omega) (1 + v) 0 M σ1 R D (Nat.zero_add _) W1 (by omega) (by omega)
  rw [z0] at st2
  obtain ⟨B, I2⟩ := W2.1
  obtain ⟨oo, hoo⟩ := W2.o0
  have n2 := F2.2.2.1
  obtain ⟨τ3, g3, I3, F3⟩ := c_196 (d := d + 52) I2 (T := 1 + v) (by omega) (by omega)
  have g3' : Ra (d + 59) 196 [.ref 0, .int (yI (1 + v))] τ2 (.inl (some (.int (ywrongs (yshows (1 + v) D))))) τ3 := g3
  obtain ⟨W3, F3'⟩ := W2.cls I3 F3
  have g4 := m_142 (d := d + 57) W3.S W3.ok
  have g4' : Ra (d + 59) 142 [.ref s] τ3 (.inl (some (.int (ywrongs (yshows (1 + v) D))))) τ3 := g4
  simp only [s_244_296, s_244_297, s_244_298, s_244_299, s_244_300, s_244_301, s_244_302, s_244_303, hor1, g1' _, ad, hcl_s, true_and, hgf_s, hsel_0, hsel_1, hsel_2, hsel_3, hsel_4, hsel_5, hsel_6, hsel_7, hsel_8, hset_0, hset_1, hset_2, hset_3, hset_4, hset_5, hset_6, hset_7, hset_8, hpf_s, hcl_s, hai_s, hpi_0, hpi_1, hln_0, hln_1, List.length_cons, List.length_nil, xwr_1, xwr_2, xnew_1, xnew_n, xnew_s, xnew_z, Nat.reduceLT, ite_true, and_self, hp_8_0, hp_8_1, hn_8_1, hp_8_2, hn_8_2, hp_9_0, hp_9_1, hp_9_2, hp_9_3, hp_9_4, hp_9_5, hn_9_5, hp_9_6, hn_9_6, hp_9_7, hn_9_7, hp_10_0, hp_10_1, hp_10_2, hn_10_2, hp_10_3, hn_10_3, hp_11_0, hp_12_0, hn_12_0, hp_12_1, hp_12_2, hp_12_3, hp_12_4, hp_12_5, hn_12_5, hp_12_6, hn_12_6, hp_12_7, hp_12_8, hp_13_0, hn_13_0, hp_13_1, hp_13_2, hp_13_3, hp_14_0, hn_14_0, hp_14_1, hp_14_2, hp_14_3, xdef_8, xdef_9, xdef_10, xdef_11, xdef_12, xdef_13, xdef_14, Gk_v, Gk_n, xcat_nil, xcat_i, xcat_r, xcat_l, xcat_d, Nat.zero_le, Nat.reduceAdd, Nat.reduceLeDiff, true_and, and_true, ykl_i, ykl_r, ykl_n, ykl_l]
  rw [st2]
  simp only [s_244_311, s_244_312, s_244_313, s_244_314, s_244_315, s_244_316, s_244_317, s_244_318, s_244_319, s_244_320, s_244_321, hoo, W3.ob, g3' _, g4' _, ne_eq, not_true_eq_false, if_false, hcl_s, true_and, hgf_s, hsel_0, hsel_1, hsel_2, hsel_3, hsel_4, hsel_5, hsel_6, hsel_7, hsel_8, hset_0, hset_1, hset_2, hset_3, hset_4, hset_5, hset_6, hset_7, hset_8, hpf_s, hcl_s, hai_s, hpi_0, hpi_1, hln_0, hln_1, List.length_cons, List.length_nil, xwr_1, xwr_2, xnew_1, xnew_n, xnew_s, xnew_z, Nat.reduceLT, ite_true, and_self, hp_8_0, hp_8_1, hn_8_1, hp_8_2, hn_8_2, hp_9_0, hp_9_1, hp_9_2, hp_9_3, hp_9_4, hp_9_5, hn_9_5, hp_9_6, hn_9_6, hp_9_7, hn_9_7, hp_10_0, hp_10_1, hp_10_2, hn_10_2, hp_10_3, hn_10_3, hp_11_0, hp_12_0, hn_12_0, hp_12_1, hp_12_2, hp_12_3, hp_12_4, hp_12_5, hn_12_5, hp_12_6, hn_12_6, hp_12_7, hp_12_8, hp_13_0, hn_13_0, hp_13_1, hp_13_2, hp_13_3, hp_14_0, hn_14_0, hp_14_1, hp_14_2, hp_14_3, xdef_8, xdef_9, xdef_10, xdef_11, xdef_12, xdef_13, xdef_14, Gk_v, Gk_n, xcat_nil, xcat_i, xcat_r, xcat_l, xcat_d, Nat.zero_le, Nat.reduceAdd, Nat.reduceLeDiff, true_and, and_true, ykl_i, ykl_r, ykl_n, ykl_l]
  exact H τ3 true ⟨R2, cv, dn', en', yshows (1 + v) D, min 8 (k + 1), ypush D E, eo, en, W3.mono (by omega), ((F1.trans W.Z F2).trans W.Z F3').mono (by omega) (by omega), Or.inl ⟨rfl, rfl, rfl⟩⟩ _ _ _ _ _ _ _ _ _ _ _ _ _ _ _ _ _ _ _ _
end

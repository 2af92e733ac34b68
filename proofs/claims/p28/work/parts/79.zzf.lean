/-! ===== the law's loop: steps; shift, level, shows ===== -/
/-- what a change brings -/
def pRes (M s lo hi : Nat) (σ τ : xS) (D : yD) (k : Nat) (E : Nat → yD) (s0 s1 : Option yD) (ch : Bool) : Prop :=
  ∃ R cv dn en D1 k1 E1 eo1 en1, pWo (M + 201) s lo hi τ R cv dn en D1 k1 E1 s0 s1 eo1 en1 D1 ∧ (pFw lo hi 4500 16000 σ τ ∧ ((ch = true ∧ (k1 = min 8 (k + 1) ∧ E1 = ypush D E)) ∨ (ch = false ∧ (k1 = k ∧ E1 = E))))
section
variable {d M M' s lo hi c x k bf sl pv : Nat} {σ τ : xS} {R R1 : pR} {cv : Value} {dn' en' eo en i2 yd yn : Int32} {D D1 X X1 : yD} {E E1 : Nat → yD} {s0 s1 s0' s1' : Option yD} {Q : xR → xS → Prop} {l12 l13 l14 l15 l16 l17 l18 l19 l20 l21 l22 l23 l24 l25 l26 l27 l28 l29 l30 l31 l32 : Option Value}
theorem pWo.S (W : pWo M s lo hi σ R cv dn' en' D k E s0 s1 eo en X) : pS σ s R X cv dn' en' := W.2.2.1.1
theorem pWo.J (W : pWo M s lo hi σ R cv dn' en' D k E s0 s1 eo en X) : pJ lo hi s R X := W.2.2.1.2
theorem pWo.hb (W : pWo M s lo hi σ R cv dn' en' D k E s0 s1 eo en X) : hi ≤ σ.2.1.1 := W.2.2.2.1.2
theorem pWo.V (W : pWo M s lo hi σ R cv dn' en' D k E s0 s1 eo en X) : pcv σ cv X := W.2.2.2.2.1.1
theorem pWo.ok (W : pWo M s lo hi σ R cv dn' en' D k E s0 s1 eo en X) : yDok X := W.2.2.2.2.1.2
theorem pWo.h9 (W : pWo M s lo hi σ R cv dn' en' D k E s0 s1 eo en X) : X.n ≤ 9 := W.2.2.2.2.2.1
theorem pWo.pf (W : pWo M s lo hi σ R cv dn' en' D k E s0 s1 eo en X) : pfr X M := W.2.2.2.2.2.2
theorem pWo.s6 (W : pWo M s lo hi σ R cv dn' en' D k E s0 s1 eo en X) : s < 1000000 := W.S.1.1
theorem pWo.show (W : pWo M s lo hi σ R cv dn' en' D k E s0 s1 eo en X) (hM : M + 1 < 1000000) (hr : σ.2.1.1 + 20 < 900000) : ∃ τ R', Ra (d + 7) 144 [.ref s] σ (.inl none) τ ∧ (pWo (M + 1) s lo hi τ R' cv dn' en' D k E s0 s1 eo en (yshowD X) ∧ pFw lo hi 20 72 σ τ) := by
  obtain ⟨τ, R', g, S1, Z1, J1, F⟩ := m_144 (d := d) W.S W.ok W.h9 W.Z W.J W.V W.hb W.pf hM hr
  obtain ⟨⟨q1, q2, q3, -⟩, q5⟩ := pshow_k W.pf
  exact ⟨τ, R', g, W.law (M' := M + 1) ⟨S1, Z1, J1, F⟩ (pshow_ok W.ok) q1 q2 q3 q5⟩
/-- shift -/
theorem l_244_1 (W : pWo M s lo hi σ R cv dn' en' D k E s0 s1 eo en D) (hr : σ.2.1.1 + 5000 < 890000) (H : ∀ τ ch, pRes M s lo hi σ τ D k E s0 s1 ch → ∀ (l13 l14 l15 l16 l17 l18 l19 l20 l21 l22 l23 l24 l25 l26 l27 l28 l29 l30 l31 l32 : Option Value), G (d + 60) 244 570 [some (.ref 1000000), some (.int 1), some (.int i2), some (.ref 0), some (.ref 160), some (.ref 161), some (.ref s), some (.ref bf), some (.ref sl), some (.int yd), some (.int yn), some (.ref pv), some (.int (yb ch)), l13, l14, l15, l16, l17, l18, l19, l20, l21, l22, l23, l24, l25, l26, l27, l28, l29, l30, l31, l32] [] τ Q) : G (d + 60) 244 241 [some (.ref 1000000), some (.int 1), some (.int i2), some (.ref 0), some (.ref 160), some (.ref 161), some (.ref s), some (.ref bf), some (.ref sl), some (.int yd), some (.int yn), some (.ref pv), some (.int 1), l13, l14, l15, l16, l17, l18, l19, l20, l21, l22, l23, l24, l25, l26, l27, l28, l29, l30, l31, l32] [] σ Q := by
  obtain ⟨v, σ1, hv, g1, ⟨W1, F1⟩, q1, e1⟩ := W.go (d := d + 59) (m := 20) (by decide) (by decide)
  have g1' : Ra (d + 59) 131 [.ref 161, .int 20] σ (.inl (some (.int (yI v)))) σ1 := g1
  have n1 : σ1.2.1.1 = σ.2.1.1 := by rw [e1]
  obtain ⟨τ2, R2, g2, U2⟩ := m_146 (d := d + 59) W1.u W1.ok W1.h9 W1.hb (b := v) (by omega) (by omega)
  obtain ⟨W2, F2⟩ := W1.law (M' := M + 201) U2 (yDok_sfm W1.ok) rfl rfl rfl (pfr_mono W1.pf (by omega))
  obtain ⟨B, I2⟩ := W2.1
  obtain ⟨τ3, g3, I3, F3⟩ := c_194 (d := d + 56) I2 (b := v) (by omega)
  have g3' : Ra (d + 59) 194 [.ref 0, .int (yI v)] τ2 (.inl (some (.int ((yturn D v).fm 0)))) τ3 := g3
  obtain ⟨W3, F3'⟩ := W2.cls I3 F3
  have h1 : 0 < (yturn D v).n := W3.ok.n1
  obtain ⟨gg, r1, r2⟩ := W3.S.lrow
  have r3 := W3.S.lm1 h1
  obtain ⟨r4, r5⟩ := W3.S.fm h1
  have g4 := m_204 (d := d + 59) r4 r5
  obtain ⟨or1, hor1⟩ := W.or
  obtain ⟨oo, hoo⟩ := W2.o0
  have ix0 : yix 0 (yturn D v).n := (yix_I (n := 0) h1 (by have := W3.h9; omega) : yix (yI 0) (yturn D v).n)
  simp only [s_244_241, s_244_242, s_244_243, s_244_244, s_244_245, s_244_246, s_244_247, s_244_248, s_244_249, s_244_250, s_244_251, s_244_244, hor1, g1' _, g2 _, g3' _, W1.ob, hoo, hcl_s, true_and, hgf_s, hsel_0, hsel_1, hsel_2, hsel_3, hsel_4, hsel_5, hsel_6, hsel_7, hsel_8, hset_0, hset_1, hset_2, hset_3, hset_4, hset_5, hset_6, hset_7, hset_8, hpf_s, hcl_s, hai_s, hpi_0, hpi_1, hln_0, hln_1, List.length_cons, List.length_nil, xwr_1, xwr_2, xnew_1, xnew_n, xnew_s, xnew_z, Nat.reduceLT, ite_true, and_self, hp_8_0, hp_8_1, hn_8_1, hp_8_2, hn_8_2, hp_9_0, hp_9_1, hp_9_2, hp_9_3, hp_9_4, hp_9_5, hn_9_5, hp_9_6, hn_9_6, hp_9_7, hn_9_7, hp_10_0, hp_10_1, hp_10_2, hn_10_2, hp_10_3, hn_10_3, hp_11_0, hp_12_0, hn_12_0, hp_12_1, hp_12_2, hp_12_3, hp_12_4, hp_12_5, hn_12_5, hp_12_6, hn_12_6, hp_12_7, hp_12_8, hp_13_0, hn_13_0, hp_13_1, hp_13_2, hp_13_3, hp_14_0, hn_14_0, hp_14_1, hp_14_2, hp_14_3, xdef_8, xdef_9, xdef_10, xdef_11, xdef_12, xdef_13, xdef_14, Gk_v, Gk_n, xcat_nil, xcat_i, xcat_r, xcat_l, xcat_d, Nat.zero_le, Nat.reduceAdd, Nat.reduceLeDiff, true_and, and_true, ykl_i, ykl_r, ykl_n, ykl_l]
  simp only [s_244_252, s_244_253, s_244_254, s_244_255, s_244_256, s_244_257, s_244_258, s_244_259, s_244_260, s_244_261, s_244_262, W3.ob, r1, r2 0 h1, r3, ix0, ycl_0, haa_t W3.S.lr0 (show 4 ≤ 6 ∧ 6 ≤ 8 by decide), hop_s, W3.S.lm0 h1, plamp, g4 _, ne_eq, not_true_eq_false, if_false, hgf_s, hsel_0, hsel_1, hsel_2, hsel_3, hsel_4, hsel_5, hsel_6, hsel_7, hsel_8, hset_0, hset_1, hset_2, hset_3, hset_4, hset_5, hset_6, hset_7, hset_8, hpf_s, hcl_s, hai_s, hpi_0, hpi_1, hln_0, hln_1, List.length_cons, List.length_nil, xwr_1, xwr_2, xnew_1, xnew_n, xnew_s, xnew_z, Nat.reduceLT, ite_true, and_self, hp_8_0, hp_8_1, hn_8_1, hp_8_2, hn_8_2, hp_9_0, hp_9_1, hp_9_2, hp_9_3, hp_9_4, hp_9_5, hn_9_5, hp_9_6, hn_9_6, hp_9_7, hn_9_7, hp_10_0, hp_10_1, hp_10_2, hn_10_2, hp_10_3, hn_10_3, hp_11_0, hp_12_0, hn_12_0, hp_12_1, hp_12_2, hp_12_3, hp_12_4, hp_12_5, hn_12_5, hp_12_6, hn_12_6, hp_12_7, hp_12_8, hp_13_0, hn_13_0, hp_13_1, hp_13_2, hp_13_3, hp_14_0, hn_14_0, hp_14_1, hp_14_2, hp_14_3, xdef_8, xdef_9, xdef_10, xdef_11, xdef_12, xdef_13, xdef_14, Gk_v, Gk_n, xcat_nil, xcat_i, xcat_r, xcat_l, xcat_d, Nat.zero_le, Nat.reduceAdd, Nat.reduceLeDiff, true_and, and_true, ykl_i, ykl_r, ykl_n, ykl_l]
  exact H τ3 true ⟨R2, cv, dn', en', yturn D v, min 8 (k + 1), ypush D E, eo, en, W3, ((F1.trans W.Z F2).trans W.Z F3').mono (by omega) (by omega), Or.inl ⟨rfl, rfl, rfl⟩⟩ _ _ _ _ _ _ _ _ _ _ _ _ _ _ _ _ _ _ _ _
end

/-! ===== the law's loop: fill ===== -/
section
variable {d M M' s lo hi c x k bf sl pv p : Nat} {σ τ : xS} {R R1 : pR} {cv : Value} {dn' en' eo en i2 yd yn : Int32} {D D1 X X1 : yD} {E E1 : Nat → yD} {s0 s1 s0' s1' : Option yD} {Q : xR → xS → Prop} {l12 l13 l14 l15 l16 l17 l18 l19 l20 l21 l22 l23 l24 l25 l26 l27 l28 l29 l30 l31 l32 : Option Value}
/-- up to where, and a color -/
theorem l_244_0a (W : pWo M s lo hi σ R cv dn' en' D k E s0 s1 eo en D) (hr : σ.2.1.1 + 5000 < 890000) : ∃ τ to v0 v1 v2, ((to < D.n ∧ v0 < 256) ∧ (v1 < 256 ∧ v2 ≤ 256)) ∧ ((∀ Q, G (d + 60) 244 167 [some (.ref 1000000), some (.int 1), some (.int i2), some (.ref 0), some (.ref 160), some (.ref 161), some (.ref s), some (.ref bf), some (.ref sl), some (.int yd), some (.int yn), some (.ref pv), some (.int 1), some (.int (yI D.n)), some (.int (yI p)), some (.int (yb (decide (p < D.n)))), l16, l17, l18, l19, l20, l21, l22, l23, l24, l25, l26, l27, l28, l29, l30, l31, l32] [] σ Q ↔ G (d + 60) 244 195 [some (.ref 1000000), some (.int 1), some (.int i2), some (.ref 0), some (.ref 160), some (.ref 161), some (.ref s), some (.ref bf), some (.ref sl), some (.int yd), some (.int yn), some (.ref pv), some (.int 1), some (.int (yI D.n)), some (.int (yI p)), some (.int (yb (decide (p < D.n)))), some (.int (yI to)), some (.ref σ.2.1.1), l18, l19, l20, l21, l22, l23, l24, l25, l26, l27, l28, l29, l30, l31, l32] [] τ Q) ∧ ((pWo M s lo hi τ R cv dn' en' D k E s0 s1 eo en D ∧ pFw lo hi 1 3 σ τ) ∧ (τ.2.1.1 = σ.2.1.1 + 1 ∧ τ.1 σ.2.1.1 = some (pints 3 (upd (upd (upd (fun _ => 0) 0 (yI v0)) 1 (yI v1)) 2 (yI v2)))))) := by
  have hn0 := W.n0
  have h1 := W.ok.n1
  have h9 := W.h9
  have Z0 := W.Z
  obtain ⟨to, σ1, hto, g1, ⟨⟨Z1, ch1⟩, F1⟩, q1, e1⟩ := pch_go (d := d + 59) W.2.1.2 Z0 (b := D.n) (by omega) (by omega)
  have n1 : σ1.2.1.1 = σ.2.1.1 := by rw [e1]
  obtain ⟨a, ha⟩ : ∃ a, a = σ.2.1.1 := ⟨_, rfl⟩
  -- the row
  have F2 := pF_al (e := .inl (0, (3, .inl (fun _ => 0)))) (m := 3) F1
  have Z2 := pZ_new (e := .inl (0, (3, .inl (fun _ => 0)))) (m := 3) Z1
  have a2 : (xnew σ1 (.inl (0, (3, .inl (fun _ => 0)))) 3).1 a = some (.inl (0, (3, .inl (fun _ => 0)))) := by rw [ha, ← n1]; exact pnew_at
  have ch2 : pch (xnew σ1 (.inl (0, (3, .inl (fun _ => 0)))) 3) 161 := pch_keep ch1 Z1 (pF_new (P := pno)) id
  have n2 : (xnew σ1 (.inl (0, (3, .inl (fun _ => 0)))) 3).2.1.1 = a + 1 := by show σ1.2.1.1 + 1 = _; omega
  obtain ⟨σ2, e2⟩ : ∃ σ2, σ2 = xnew σ1 (.inl (0, (3, .inl (fun _ => 0)))) 3 := ⟨_, rfl⟩
  rw [← e2] at F2 Z2 a2 ch2 n2
  -- a channel
  obtain ⟨v0, σ3, hv0, g3, ⟨⟨Z3, ch3⟩, F3⟩, q3, e3⟩ := pch_ch (d := d + 58) ch2 Z2
  have F03 : pF (fun b => b = 161) 1 3 σ σ3 := pF.trans F2 F3 (fun _ _ q => q.elim id id)
  have a3 : σ3.1 a = some (.inl (0, (3, .inl (fun _ => 0)))) := by rw [q3 a (by omega), a2]
  have F4 := pF_hi F03 Z3 a3 (by omega) (e' := .inl (0, (3, .inl (upd (fun _ => 0) 0 (yI v0)))))
  have Z4 := pZ_wr Z3 a3 (e' := .inl (0, (3, .inl (upd (fun _ => 0) 0 (yI v0)))))
  have a4 : (xwr σ3 a (.inl (0, (3, .inl (upd (fun _ => 0) 0 (yI v0)))))).1 a = some (.inl (0, (3, .inl (upd (fun _ => 0) 0 (yI v0))))) := pwr_at
  have ch4 : pch (xwr σ3 a (.inl (0, (3, .inl (upd (fun _ => 0) 0 (yI v0)))))) 161 := pch_keep ch3 Z3 (pF_wr (P := fun b => b = a) (c := 0) (s := 0) (pZ_lt Z3 a3) rfl) (by omega)
  have n4 : (xwr σ3 a (.inl (0, (3, .inl (upd (fun _ => 0) 0 (yI v0)))))).2.1.1 = a + 1 := by show σ3.2.1.1 = _; rw [e3, n2]
  obtain ⟨σ4, e4⟩ : ∃ σ4, σ4 = xwr σ3 a (.inl (0, (3, .inl (upd (fun _ => 0) 0 (yI v0))))) := ⟨_, rfl⟩
  rw [← e4] at F4 Z4 a4 ch4 n4
  -- a channel
  obtain ⟨v1, σ5, hv1, g5, ⟨⟨Z5, ch5⟩, F5⟩, q5, e5⟩ := pch_ch (d := d + 58) ch4 Z4
  have F05 : pF (fun b => b = 161) 1 3 σ σ5 := pF.trans F4 F5 (fun _ _ q => q.elim id id)
  have a5 : σ5.1 a = some (.inl (0, (3, .inl (upd (fun _ => 0) 0 (yI v0))))) := by rw [q5 a (by omega), a4]
  have F6 := pF_hi F05 Z5 a5 (by omega) (e' := .inl (0, (3, .inl (upd (upd (fun _ => 0) 0 (yI v0)) 1 (yI v1)))))
  have Z6 := pZ_wr Z5 a5 (e' := .inl (0, (3, .inl (upd (upd (fun _ => 0) 0 (yI v0)) 1 (yI v1)))))
  have a6 : (xwr σ5 a (.inl (0, (3, .inl (upd (upd (fun _ => 0) 0 (yI v0)) 1 (yI v1)))))).1 a = some (.inl (0, (3, .inl (upd (upd (fun _ => 0) 0 (yI v0)) 1 (yI v1))))) := pwr_at
  have ch6 : pch (xwr σ5 a (.inl (0, (3, .inl (upd (upd (fun _ => 0) 0 (yI v0)) 1 (yI v1)))))) 161 := pch_keep ch5 Z5 (pF_wr (P := fun b => b = a) (c := 0) (s := 0) (pZ_lt Z5 a5) rfl) (by omega)
  have n6 : (xwr σ5 a (.inl (0, (3, .inl (upd (upd (fun _ => 0) 0 (yI v0)) 1 (yI v1)))))).2.1.1 = a + 1 := by show σ5.2.1.1 = _; rw [e5, n4]
  obtain ⟨σ6, e6⟩ : ∃ σ6, σ6 = xwr σ5 a (.inl (0, (3, .inl (upd (upd (fun _ => 0) 0 (yI v0)) 1 (yI v1))))) := ⟨_, rfl⟩
  rw [← e6] at F6 Z6 a6 ch6 n6
  -- the last one
  obtain ⟨w, σ7, hw, g7, ⟨⟨Z7, ch7⟩, F7⟩, q7, e7⟩ := pch_go (d := d + 59) ch6 Z6 (b := 9) (by decide) (by decide)
  have F07 : pF (fun b => b = 161) 1 3 σ σ7 := pF.trans F6 F7 (fun _ _ q => q.elim id id)
  have a7 : σ7.1 a = some (.inl (0, (3, .inl (upd (upd (fun _ => 0) 0 (yI v0)) 1 (yI v1))))) := by rw [q7 a (by omega), a6]
  have n7 : σ7.2.1.1 = a + 1 := by rw [e7, n6]
  have g1' : Ra (d + 59) 131 [.ref 161, .int (yI D.n)] σ (.inl (some (.int (yI to)))) σ1 := g1
  have g3' : Ra (d + 59) 206 [.ref 161] σ2 (.inl (some (.int (yI v0)))) σ3 := g3
  have g5' : Ra (d + 59) 206 [.ref 161] σ4 (.inl (some (.int (yI v1)))) σ5 := g5
  have g7' : Ra (d + 59) 131 [.ref 161, .int 9] σ6 (.inl (some (.int (yI w)))) σ7 := g7
  obtain ⟨f0, or0⟩ := W.or
  have or6 : ∃ fs, xRd σ6 161 = some (.inr (11, fs)) := by
    obtain ⟨h1, y, h2⟩ := ch6
    exact ⟨_, (yrd_lt h1).trans h2⟩
  obtain ⟨f6, or6⟩ := or6
  have a9 : a < 1000000 := by omega
  have a99 : σ1.2.1.1 < 900000 := by omega
  have n3 : ¬ (3 : Int32) < 0 := by decide
  have n4' : (3 : Nat) ≤ 100000 := by decide
  have c3 : (3 : Int32).toNatClampNeg = 3 := rfl
  have na : σ1.2.1.1 = a := by omega
  have stA : ∀ Q, G (d + 60) 244 167 [some (.ref 1000000), some (.int 1), some (.int i2), some (.ref 0), some (.ref 160), some (.ref 161), some (.ref s), some (.ref bf), some (.ref sl), some (.int yd), some (.int yn), some (.ref pv), some (.int 1), some (.int (yI D.n)), some (.int (yI p)), some (.int (yb (decide (p < D.n)))), l16, l17, l18, l19, l20, l21, l22, l23, l24, l25, l26, l27, l28, l29, l30, l31, l32] [] σ Q ↔ G (d + 60) 244 188 [some (.ref 1000000), some (.int 1), some (.int i2), some (.ref 0), some (.ref 160), some (.ref 161), some (.ref s), some (.ref bf), some (.ref sl), some (.int yd), some (.int yn), some (.ref pv), some (.int 1), some (.int (yI D.n)), some (.int (yI p)), some (.int (yb (decide (p < D.n)))), some (.int (yI to)), l17, l18, l19, l20, l21, l22, l23, l24, l25, l26, l27, l28, l29, l30, l31, l32] [.int (yI w), .int 2, .ref a, .ref a] σ7 Q := by
    intro Q
    simp only [s_244_167, s_244_168, s_244_169, s_244_170, s_244_171, s_244_172, or0, g1' _, n3, n4', c3, a99, not_false_eq_true, hcl_s, true_and, hgf_s, hsel_0, hsel_1, hsel_2, hsel_3, hsel_4, hsel_5, hsel_6, hsel_7, hsel_8, hset_0, hset_1, hset_2, hset_3, hset_4, hset_5, hset_6, hset_7, hset_8, hpf_s, hcl_s, hai_s, hpi_0, hpi_1, hln_0, hln_1, List.length_cons, List.length_nil, xwr_1, xwr_2, xnew_1, xnew_n, xnew_s, xnew_z, Nat.reduceLT, ite_true, and_self, hp_8_0, hp_8_1, hn_8_1, hp_8_2, hn_8_2, hp_9_0, hp_9_1, hp_9_2, hp_9_3, hp_9_4, hp_9_5, hn_9_5, hp_9_6, hn_9_6, hp_9_7, hn_9_7, hp_10_0, hp_10_1, hp_10_2, hn_10_2, hp_10_3, hn_10_3, hp_11_0, hp_12_0, hn_12_0, hp_12_1, hp_12_2, hp_12_3, hp_12_4, hp_12_5, hn_12_5, hp_12_6, hn_12_6, hp_12_7, hp_12_8, hp_13_0, hn_13_0, hp_13_1, hp_13_2, hp_13_3, hp_14_0, hn_14_0, hp_14_1, hp_14_2, hp_14_3, xdef_8, xdef_9, xdef_10, xdef_11, xdef_12, xdef_13, xdef_14, Gk_v, Gk_n, xcat_nil, xcat_i, xcat_r, xcat_l, xcat_d, Nat.zero_le, Nat.reduceAdd, Nat.reduceLeDiff, true_and, and_true, ykl_i, ykl_r, ykl_n, ykl_l]
    rw [← e2, na]
    simp only [s_244_173, s_244_173i, s_244_174, s_244_175, s_244_176, s_244_177, g3' _, a3, a9, yix3_0, ycl_0, hcl_s, true_and, hgf_s, hsel_0, hsel_1, hsel_2, hsel_3, hsel_4, hsel_5, hsel_6, hsel_7, hsel_8, hset_0, hset_1, hset_2, hset_3, hset_4, hset_5, hset_6, hset_7, hset_8, hpf_s, hcl_s, hai_s, hpi_0, hpi_1, hln_0, hln_1, List.length_cons, List.length_nil, xwr_1, xwr_2, xnew_1, xnew_n, xnew_s, xnew_z, Nat.reduceLT, ite_true, and_self, hp_8_0, hp_8_1, hn_8_1, hp_8_2, hn_8_2, hp_9_0, hp_9_1, hp_9_2, hp_9_3, hp_9_4, hp_9_5, hn_9_5, hp_9_6, hn_9_6, hp_9_7, hn_9_7, hp_10_0, hp_10_1, hp_10_2, hn_10_2, hp_10_3, hn_10_3, hp_11_0, hp_12_0, hn_12_0, hp_12_1, hp_12_2, hp_12_3, hp_12_4, hp_12_5, hn_12_5, hp_12_6, hn_12_6, hp_12_7, hp_12_8, hp_13_0, hn_13_0, hp_13_1, hp_13_2, hp_13_3, hp_14_0, hn_14_0, hp_14_1, hp_14_2, hp_14_3, xdef_8, xdef_9, xdef_10, xdef_11, xdef_12, xdef_13, xdef_14, Gk_v, Gk_n, xcat_nil, xcat_i, xcat_r, xcat_l, xcat_d, Nat.zero_le, Nat.reduceAdd, Nat.reduceLeDiff, true_and, and_true, ykl_i, ykl_r, ykl_n, ykl_l]
    rw [← e4]
    simp only [s_244_178, s_244_178i, s_244_179, s_244_180, s_244_181, s_244_182, g5' _, a5, a9, yix3_1, ycl_1, hcl_s, true_and, hgf_s, hsel_0, hsel_1, hsel_2, hsel_3, hsel_4, hsel_5, hsel_6, hsel_7, hsel_8, hset_0, hset_1, hset_2, hset_3, hset_4, hset_5, hset_6, hset_7, hset_8, hpf_s, hcl_s, hai_s, hpi_0, hpi_1, hln_0, hln_1, List.length_cons, List.length_nil, xwr_1, xwr_2, xnew_1, xnew_n, xnew_s, xnew_z, Nat.reduceLT, ite_true, and_self, hp_8_0, hp_8_1, hn_8_1, hp_8_2, hn_8_2, hp_9_0, hp_9_1, hp_9_2, hp_9_3, hp_9_4, hp_9_5, hn_9_5, hp_9_6, hn_9_6, hp_9_7, hn_9_7, hp_10_0, hp_10_1, hp_10_2, hn_10_2, hp_10_3, hn_10_3, hp_11_0, hp_12_0, hn_12_0, hp_12_1, hp_12_2, hp_12_3, hp_12_4, hp_12_5, hn_12_5, hp_12_6, hn_12_6, hp_12_7, hp_12_8, hp_13_0, hn_13_0, hp_13_1, hp_13_2, hp_13_3, hp_14_0, hn_14_0, hp_14_1, hp_14_2, hp_14_3, xdef_8, xdef_9, xdef_10, xdef_11, xdef_12, xdef_13, xdef_14, Gk_v, Gk_n, xcat_nil, xcat_i, xcat_r, xcat_l, xcat_d, Nat.zero_le, Nat.reduceAdd, Nat.reduceLeDiff, true_and, and_true, ykl_i, ykl_r, ykl_n, ykl_l]
    rw [← e6]
    simp only [s_244_183, s_244_183i, s_244_184, s_244_185, s_244_186, s_244_187, or6, g7' _, hcl_s, true_and, hgf_s, hsel_0, hsel_1, hsel_2, hsel_3, hsel_4, hsel_5, hsel_6, hsel_7, hsel_8, hset_0, hset_1, hset_2, hset_3, hset_4, hset_5, hset_6, hset_7, hset_8, hpf_s, hcl_s, hai_s, hpi_0, hpi_1, hln_0, hln_1, List.length_cons, List.length_nil, xwr_1, xwr_2, xnew_1, xnew_n, xnew_s, xnew_z, Nat.reduceLT, ite_true, and_self, hp_8_0, hp_8_1, hn_8_1, hp_8_2, hn_8_2, hp_9_0, hp_9_1, hp_9_2, hp_9_3, hp_9_4, hp_9_5, hn_9_5, hp_9_6, hn_9_6, hp_9_7, hn_9_7, hp_10_0, hp_10_1, hp_10_2, hn_10_2, hp_10_3, hn_10_3, hp_11_0, hp_12_0, hn_12_0, hp_12_1, hp_12_2, hp_12_3, hp_12_4, hp_12_5, hn_12_5, hp_12_6, hn_12_6, hp_12_7, hp_12_8, hp_13_0, hn_13_0, hp_13_1, hp_13_2, hp_13_3, hp_14_0, hn_14_0, hp_14_1, hp_14_2, hp_14_3, xdef_8, xdef_9, xdef_10, xdef_11, xdef_12, xdef_13, xdef_14, Gk_v, Gk_n, xcat_nil, xcat_i, xcat_r, xcat_l, xcat_d, Nat.zero_le, Nat.reduceAdd, Nat.reduceLeDiff, true_and, and_true, ykl_i, ykl_r, ykl_n, ykl_l]
  have fin : ∀ (σ8 : xS) v2, v2 ≤ 256 → pZ σ8 → pch σ8 161 → pF (fun b => b = 161) 1 3 σ σ8 → σ8.1 a = some (.inl (0, (3, .inl (upd (upd (fun _ => 0) 0 (yI v0)) 1 (yI v1))))) → σ8.2.1.1 = a + 1 → (∀ Q, G (d + 60) 244 188 [some (.ref 1000000), some (.int 1), some (.int i2), some (.ref 0), some (.ref 160), some (.ref 161), some (.ref s), some (.ref bf), some (.ref sl), some (.int yd), some (.int yn), some (.ref pv), some (.int 1), some (.int (yI D.n)), some (.int (yI p)), some (.int (yb (decide (p < D.n)))), some (.int (yI to)), l17, l18, l19, l20, l21, l22, l23, l24, l25, l26, l27, l28, l29, l30, l31, l32] [.int (yI w), .int 2, .ref a, .ref a] σ7 Q ↔ G (d + 60) 244 193 [some (.ref 1000000), some (.int 1), some (.int i2), some (.ref 0), some (.ref 160), some (.ref 161), some (.ref s), some (.ref bf), some (.ref sl), some (.int yd), some (.int yn), some (.ref pv), some (.int 1), some (.int (yI D.n)), some (.int (yI p)), some (.int (yb (decide (p < D.n)))), some (.int (yI to)), l17, l18, l19, l20, l21, l22, l23, l24, l25, l26, l27, l28, l29, l30, l31, l32] [.int (yI v2), .int 2, .ref a, .ref a] σ8 Q) → ∃ τ to v0 v1 v2, ((to < D.n ∧ v0 < 256) ∧ (v1 < 256 ∧ v2 ≤ 256)) ∧ ((∀ Q, G (d + 60) 244 167 [some (.ref 1000000), some (.int 1), some (.int i2), some (.ref 0), some (.ref 160), some (.ref 161), some (.ref s), some (.ref bf), some (.ref sl), some (.int yd), some (.int yn), some (.ref pv), some (.int 1), some (.int (yI D.n)), some (.int (yI p)), some (.int (yb (decide (p < D.n)))), l16, l17, l18, l19, l20, l21, l22, l23, l24, l25, l26, l27, l28, l29, l30, l31, l32] [] σ Q ↔ G (d + 60) 244 195 [some (.ref 1000000), some (.int 1), some (.int i2), some (.ref 0), some (.ref 160), some (.ref 161), some (.ref s), some (.ref bf), some (.ref sl), some (.int yd), some (.int yn), some (.ref pv), some (.int 1), some (.int (yI D.n)), some (.int (yI p)), some (.int (yb (decide (p < D.n)))), some (.int (yI to)), some (.ref a), l18, l19, l20, l21, l22, l23, l24, l25, l26, l27, l28, l29, l30, l31, l32] [] τ Q) ∧ ((pWo M s lo hi τ R cv dn' en' D k E s0 s1 eo en D ∧ pFw lo hi 1 3 σ τ) ∧ (τ.2.1.1 = a + 1 ∧ τ.1 a = some (pints 3 (upd (upd (upd (fun _ => 0) 0 (yI v0)) 1 (yI v1)) 2 (yI v2)))))) := by
    intro σ8 v2 hv2 Z8 ch8 F8 a8 n8' st8
    have F9 := pF_hi F8 Z8 a8 (by omega) (e' := pints 3 (upd (upd (upd (fun _ => 0) 0 (yI v0)) 1 (yI v1)) 2 (yI v2)))
    have ch9 : pch (xwr σ8 a (pints 3 (upd (upd (upd (fun _ => 0) 0 (yI v0)) 1 (yI v1)) 2 (yI v2)))) 161 := pch_keep ch8 Z8 (pF_wr (P := fun b => b = a) (c := 0) (s := 0) (pZ_lt Z8 a8) rfl) (by omega)
    refine ⟨_, to, v0, v1, v2, ⟨⟨hto, hv0⟩, hv1, hv2⟩, fun Q => (stA Q).trans ((st8 Q).trans ?_), W.own F9 (fun _ q => q) ch9, n8', pwr_at⟩
    simp only [s_244_193, s_244_194 a9, a8, a9, yix3_2, ycl_2, hgf_s, hsel_0, hsel_1, hsel_2, hsel_3, hsel_4, hsel_5, hsel_6, hsel_7, hsel_8, hset_0, hset_1, hset_2, hset_3, hset_4, hset_5, hset_6, hset_7, hset_8, hpf_s, hcl_s, hai_s, hpi_0, hpi_1, hln_0, hln_1, List.length_cons, List.length_nil, xwr_1, xwr_2, xnew_1, xnew_n, xnew_s, xnew_z, Nat.reduceLT, ite_true, and_self, hp_8_0, hp_8_1, hn_8_1, hp_8_2, hn_8_2, hp_9_0, hp_9_1, hp_9_2, hp_9_3, hp_9_4, hp_9_5, hn_9_5, hp_9_6, hn_9_6, hp_9_7, hn_9_7, hp_10_0, hp_10_1, hp_10_2, hn_10_2, hp_10_3, hn_10_3, hp_11_0, hp_12_0, hn_12_0, hp_12_1, hp_12_2, hp_12_3, hp_12_4, hp_12_5, hn_12_5, hp_12_6, hn_12_6, hp_12_7, hp_12_8, hp_13_0, hn_13_0, hp_13_1, hp_13_2, hp_13_3, hp_14_0, hn_14_0, hp_14_1, hp_14_2, hp_14_3, xdef_8, xdef_9, xdef_10, xdef_11, xdef_12, xdef_13, xdef_14, Gk_v, Gk_n, xcat_nil, xcat_i, xcat_r, xcat_l, xcat_d, Nat.zero_le, Nat.reduceAdd, Nat.reduceLeDiff, true_and, and_true, ykl_i, ykl_r, ykl_n, ykl_l]
  rw [← ha]
  by_cases hw0 : w = 0
  · subst hw0
    have z : yI 0 = 0 := rfl
    have z6 : yI 256 = 256 := rfl
    refine fin σ7 256 (Nat.le_refl _) Z7 ch7 F07 a7 n7 (fun Q => ?_)
    simp only [s_244_188, s_244_189, s_244_190, s_244_191, s_244_192, z, z6, ne_eq, not_true_eq_false, if_false, Gk_v, Gk_n, xcat_nil, xcat_i, xcat_r, xcat_l, xcat_d, Nat.zero_le, Nat.reduceAdd, Nat.reduceLeDiff, true_and, and_true, ykl_i, ykl_r, ykl_n, ykl_l]
  · have z : ¬ yI w = 0 := fun e => hw0 ((yI_inj (m := 0) (by omega) (by decide)).mp e)
    obtain ⟨v2, σ8, hv2, g8, ⟨⟨Z8, ch8⟩, F8⟩, q8, e8⟩ := pch_ch (d := d + 58) ch7 Z7
    have g8' : Ra (d + 59) 206 [.ref 161] σ7 (.inl (some (.int (yI v2)))) σ8 := g8
    refine fin σ8 v2 (by omega) Z8 ch8 (pF.trans F07 F8 (fun _ _ q => q.elim id id)) (by rw [q8 a (by omega), a7]) (by rw [e8, n7]) (fun Q => ?_)
    simp only [s_244_188, s_244_189, s_244_190, s_244_191, s_244_192, g8' _, z, ne_eq, not_false_eq_true, if_true, hcl_s, true_and, Gk_v, Gk_n, xcat_nil, xcat_i, xcat_r, xcat_l, xcat_d, Nat.zero_le, Nat.reduceAdd, Nat.reduceLeDiff, true_and, and_true, ykl_i, ykl_r, ykl_n, ykl_l]
/-- fill -/
theorem l_244_0 (W : pWo M s lo hi σ R cv dn' en' D k E s0 s1 eo en D) (hr : σ.2.1.1 + 5000 < 890000) (hp9 : p ≤ 10) (H : ∀ τ ch, pRes M s lo hi σ τ D k E s0 s1 ch → ∀ (l13 l14 l15 l16 l17 l18 l19 l20 l21 l22 l23 l24 l25 l26 l27 l28 l29 l30 l31 l32 : Option Value), G (d + 60) 244 570 [some (.ref 1000000), some (.int 1), some (.int i2), some (.ref 0), some (.ref 160), some (.ref 161), some (.ref s), some (.ref bf), some (.ref sl), some (.int yd), some (.int yn), some (.ref pv), some (.int (yb ch)), l13, l14, l15, l16, l17, l18, l19, l20, l21, l22, l23, l24, l25, l26, l27, l28, l29, l30, l31, l32] [] τ Q) : G (d + 60) 244 167 [some (.ref 1000000), some (.int 1), some (.int i2), some (.ref 0), some (.ref 160), some (.ref 161), some (.ref s), some (.ref bf), some (.ref sl), some (.int yd), some (.int yn), some (.ref pv), some (.int 1), some (.int (yI D.n)), some (.int (yI p)), some (.int (yb (decide (p < D.n)))), l16, l17, l18, l19, l20, l21, l22, l23, l24, l25, l26, l27, l28, l29, l30, l31, l32] [] σ Q := by
  obtain ⟨σ1, to, v0, v1, v2, ⟨⟨hto, hv0⟩, hv1, hv2⟩, st, ⟨W1, F1⟩, n1, a1⟩ := l_244_0a (d := d) (p := p) (i2 := i2) (bf := bf) (sl := sl) (pv := pv) (yd := yd) (yn := yn) (l16 := l16) (l17 := l17) (l18 := l18) (l19 := l19) (l20 := l20) (l21 := l21) (l22 := l22) (l23 := l23) (l24 := l24) (l25 := l25) (l26 := l26) (l27 := l27) (l28 := l28) (l29 := l29) (l30 := l30) (l31 := l31) (l32 := l32) W hr
  rw [st]
  obtain ⟨a, ha⟩ : ∃ a, a = σ.2.1.1 := ⟨_, rfl⟩
  rw [← ha] at a1 ⊢
  have h9 := W1.h9
  have hhi := W.hb
  have a9 : a < 1000000 := by omega
  have ra : xRd σ1 a = some (.inl (0, (3, .inl (upd (upd (upd (fun _ => 0) 0 (yI v0)) 1 (yI v1)) 2 (yI v2))))) := by rw [yrd_lt a9, a1]
  obtain ⟨B, I1⟩ := W1.1
  obtain ⟨oo, hoo⟩ := W1.o0
  have u0 : upd (upd (upd (fun _ => (0 : Int32)) 0 (yI v0)) 1 (yI v1)) 2 (yI v2) 0 = yI v0 := rfl
  have u1 : upd (upd (upd (fun _ => (0 : Int32)) 0 (yI v0)) 1 (yI v1)) 2 (yI v2) 1 = yI v1 := rfl
  have u2 : upd (upd (upd (fun _ => (0 : Int32)) 0 (yI v0)) 1 (yI v1)) 2 (yI v2) 2 = yI v2 := rfl
  by_cases hp : p < D.n
  · rw [decide_eq_true hp, show yb true = 1 from rfl]
    by_cases hc : p ≤ to ∧ v2 < 256
    · obtain ⟨hc1, hc2⟩ := hc
      obtain ⟨w1, w2, w3, w4⟩ := pcol_of (r := v0) (g := v1) (b := v2) hv0 hv1 hc2
      obtain ⟨τ2, g2, I2, F2⟩ := c_193 (d := d + 56) I1 (f := p) (q := to) (r := v0) (g := v1) (b := v2) hto hc1 hv0 hv1 hc2
      rw [ycolor_nat] at g2 I2
      have g2' : Ra (d + 59) 193 [.ref 0, .int (yI p), .int (yI to), .int (yI v0), .int (yI v1), .int (yI v2)] σ1 (.inl (some (.int (ypt (yI (65536 * v0 + 256 * v1 + v2)) (to + 1 - p) p 0 D).1))) τ2 := g2
      obtain ⟨W2, F2'⟩ := W1.cls I2 F2
      have a2 : τ2.1 a = some (pints 3 (upd (upd (upd (fun _ => 0) 0 (yI v0)) 1 (yI v1)) 2 (yI v2))) := pF_keep W1.Z F2' a1 (fun q => q.2 _ a1 (Or.inl ⟨3, _, Or.inr rfl, rfl⟩))
      have hC : pC τ2 a (yI (65536 * v0 + 256 * v1 + v2)) := ⟨a9, _, a2, by rw [w2]; rfl, by rw [w3]; rfl, by rw [w4]; rfl⟩
      obtain ⟨τ3, R3, g3, U3⟩ := m_145 (d := d + 58) W2.u W2.ok w1 hC (fm := p) (to := to) hto hc1
      have g3' : Ra (d + 59) 145 [.ref s, .int (yI p), .int (yI to), .ref a] τ2 (.inl (some (.int (ypt (yI (65536 * v0 + 256 * v1 + v2)) (to + 1 - p) p 0 D).1))) τ3 := g3
      obtain ⟨FF, hF⟩ := ypt_D (c := yI (65536 * v0 + 256 * v1 + v2)) (to + 1 - p) p 0 D
      rw [hF] at U3 W2
      obtain ⟨W3, F3'⟩ := W2.law (M' := M + 201) U3 (yDok_sfm W2.ok) rfl rfl rfl (pfr_mono W2.pf (by omega))
      have z1 : ¬ yI to < yI p := fun h => by
        have := (yI_lt (by omega) (by omega)).mp h
        omega
      have z2 : ¬ (256 : Int32) ≤ yI v2 := fun h => absurd ((yI_le (n := 256) (by decide) (by omega)).mp h) (by omega)
      simp only [s_244_195, s_244_196, s_244_197, s_244_198, s_244_199, s_244_200, s_244_201, s_244_202, s_244_203, s_244_204, s_244_205, s_244_206, s_244_207, s_244_208, s_244_209, s_244_210, s_244_211, s_244_212, s_244_213, s_244_214, s_244_215, s_244_216, s_244_217, s_244_218, s_244_219, s_244_220, s_244_221, ra, u0, u1, u2, hoo, g2' _, z1, z2, yix3_0, yix3_1, yix3_2, ycl_0, ycl_1, ycl_2, show ¬ (1 : Int32) = 0 from by decide, ne_eq, not_true_eq_false, if_true, if_false, hcl_s, true_and, hgf_s, hsel_0, hsel_1, hsel_2, hsel_3, hsel_4, hsel_5, hsel_6, hsel_7, hsel_8, hset_0, hset_1, hset_2, hset_3, hset_4, hset_5, hset_6, hset_7, hset_8, hpf_s, hcl_s, hai_s, hpi_0, hpi_1, hln_0, hln_1, List.length_cons, List.length_nil, xwr_1, xwr_2, xnew_1, xnew_n, xnew_s, xnew_z, Nat.reduceLT, ite_true, and_self, hp_8_0, hp_8_1, hn_8_1, hp_8_2, hn_8_2, hp_9_0, hp_9_1, hp_9_2, hp_9_3, hp_9_4, hp_9_5, hn_9_5, hp_9_6, hn_9_6, hp_9_7, hn_9_7, hp_10_0, hp_10_1, hp_10_2, hn_10_2, hp_10_3, hn_10_3, hp_11_0, hp_12_0, hn_12_0, hp_12_1, hp_12_2, hp_12_3, hp_12_4, hp_12_5, hn_12_5, hp_12_6, hn_12_6, hp_12_7, hp_12_8, hp_13_0, hn_13_0, hp_13_1, hp_13_2, hp_13_3, hp_14_0, hn_14_0, hp_14_1, hp_14_2, hp_14_3, xdef_8, xdef_9, xdef_10, xdef_11, xdef_12, xdef_13, xdef_14, Gk_v, Gk_n, xcat_nil, xcat_i, xcat_r, xcat_l, xcat_d, Nat.zero_le, Nat.reduceAdd, Nat.reduceLeDiff, true_and, and_true, ykl_i, ykl_r, ykl_n, ykl_l]
      simp only [s_244_222, s_244_223, s_244_224, s_244_225, s_244_226, s_244_227, s_244_228, s_244_229, s_244_230, s_244_231, s_244_232, s_244_233, s_244_234, s_244_235, s_244_236, s_244_237, s_244_238, s_244_239, s_244_240, W2.ob, g3' _, show ¬ (1 : Int32) = 0 from by decide, ne_eq, not_true_eq_false, if_true, if_false, hcl_s, true_and, hgf_s, hsel_0, hsel_1, hsel_2, hsel_3, hsel_4, hsel_5, hsel_6, hsel_7, hsel_8, hset_0, hset_1, hset_2, hset_3, hset_4, hset_5, hset_6, hset_7, hset_8, hpf_s, hcl_s, hai_s, hpi_0, hpi_1, hln_0, hln_1, List.length_cons, List.length_nil, xwr_1, xwr_2, xnew_1, xnew_n, xnew_s, xnew_z, Nat.reduceLT, ite_true, and_self, hp_8_0, hp_8_1, hn_8_1, hp_8_2, hn_8_2, hp_9_0, hp_9_1, hp_9_2, hp_9_3, hp_9_4, hp_9_5, hn_9_5, hp_9_6, hn_9_6, hp_9_7, hn_9_7, hp_10_0, hp_10_1, hp_10_2, hn_10_2, hp_10_3, hn_10_3, hp_11_0, hp_12_0, hn_12_0, hp_12_1, hp_12_2, hp_12_3, hp_12_4, hp_12_5, hn_12_5, hp_12_6, hn_12_6, hp_12_7, hp_12_8, hp_13_0, hn_13_0, hp_13_1, hp_13_2, hp_13_3, hp_14_0, hn_14_0, hp_14_1, hp_14_2, hp_14_3, xdef_8, xdef_9, xdef_10, xdef_11, xdef_12, xdef_13, xdef_14, Gk_v, Gk_n, xcat_nil, xcat_i, xcat_r, xcat_l, xcat_d, Nat.zero_le, Nat.reduceAdd, Nat.reduceLeDiff, true_and, and_true, ykl_i, ykl_r, ykl_n, ykl_l]
      exact H τ3 true ⟨R3, cv, dn', en', D.sfm FF, min 8 (k + 1), ypush D E, eo, en, W3, ((F1.trans W.Z F2').trans W.Z F3').mono (by omega) (by omega), Or.inl ⟨rfl, rfl, rfl⟩⟩ _ _ _ _ _ _ _ _ _ _ _ _ _ _ _ _ _ _ _ _
    · have hcc : (if D.n ≤ p ∨ D.n ≤ to then 3 else if to < p ∨ (255 < v0 ∨ (255 < v1 ∨ 255 < v2)) then 2 else 0) = 2 := by
        rw [if_neg (by omega), if_pos (by omega)]
      obtain ⟨τ2, g2, I2, F2⟩ := c_193t2 (d := d + 56) I1 (by omega) (f := p) (q := to) (r := v0) (g := v1) (b := v2) (by omega) (by omega) (by omega) (by omega) (by omega) hcc
      have g2' : Ra (d + 59) 193 [.ref 0, .int (yI p), .int (yI to), .int (yI v0), .int (yI v1), .int (yI v2)] σ1 (.inl (some (.int (-2000000098)))) τ2 := g2
      obtain ⟨W2, F2'⟩ := W1.cls I2 F2
      by_cases hc1 : p ≤ to
      · have z1 : ¬ yI to < yI p := fun h => by
          have := (yI_lt (by omega) (by omega)).mp h
          omega
        have z2 : (256 : Int32) ≤ yI v2 := (yI_le (n := 256) (by decide) (by omega)).mpr (by omega)
        simp only [s_244_195, s_244_196, s_244_197, s_244_198, s_244_199, s_244_200, s_244_201, s_244_202, s_244_203, s_244_204, s_244_205, s_244_206, s_244_207, s_244_208, s_244_209, s_244_210, s_244_211, s_244_212, s_244_213, s_244_214, s_244_215, s_244_216, s_244_217, s_244_218, s_244_219, s_244_220, s_244_221, s_244_222, s_244_223, s_244_224, s_244_225, s_244_226, s_244_227, s_244_228, s_244_229, s_244_230, s_244_231, s_244_232, s_244_233, s_244_234, s_244_235, s_244_236, s_244_237, s_244_238, s_244_239, s_244_240, ra, u0, u1, u2, hoo, g2' _, z1, z2, yix3_0, yix3_1, yix3_2, ycl_0, ycl_1, ycl_2, show ¬ (1 : Int32) = 0 from by decide, ne_eq, not_true_eq_false, if_true, if_false, hcl_s, true_and, hgf_s, hsel_0, hsel_1, hsel_2, hsel_3, hsel_4, hsel_5, hsel_6, hsel_7, hsel_8, hset_0, hset_1, hset_2, hset_3, hset_4, hset_5, hset_6, hset_7, hset_8, hpf_s, hcl_s, hai_s, hpi_0, hpi_1, hln_0, hln_1, List.length_cons, List.length_nil, xwr_1, xwr_2, xnew_1, xnew_n, xnew_s, xnew_z, Nat.reduceLT, ite_true, and_self, hp_8_0, hp_8_1, hn_8_1, hp_8_2, hn_8_2, hp_9_0, hp_9_1, hp_9_2, hp_9_3, hp_9_4, hp_9_5, hn_9_5, hp_9_6, hn_9_6, hp_9_7, hn_9_7, hp_10_0, hp_10_1, hp_10_2, hn_10_2, hp_10_3, hn_10_3, hp_11_0, hp_12_0, hn_12_0, hp_12_1, hp_12_2, hp_12_3, hp_12_4, hp_12_5, hn_12_5, hp_12_6, hn_12_6, hp_12_7, hp_12_8, hp_13_0, hn_13_0, hp_13_1, hp_13_2, hp_13_3, hp_14_0, hn_14_0, hp_14_1, hp_14_2, hp_14_3, xdef_8, xdef_9, xdef_10, xdef_11, xdef_12, xdef_13, xdef_14, Gk_v, Gk_n, xcat_nil, xcat_i, xcat_r, xcat_l, xcat_d, Nat.zero_le, Nat.reduceAdd, Nat.reduceLeDiff, true_and, and_true, ykl_i, ykl_r, ykl_n, ykl_l]
        exact H τ2 false ⟨R, cv, dn', en', D, k, E, eo, en, W2.mono (by omega), (F1.trans W.Z F2').mono (by omega) (by omega), Or.inr ⟨rfl, rfl, rfl⟩⟩ _ _ _ _ _ _ _ _ _ _ _ _ _ _ _ _ _ _ _ _
      · have z1 : yI to < yI p := (yI_lt (by omega) (by omega)).mpr (by omega)
        simp only [s_244_195, s_244_196, s_244_197, s_244_198, s_244_199, s_244_200, s_244_201, s_244_202, s_244_203, s_244_204, s_244_205, s_244_206, s_244_207, s_244_208, s_244_209, s_244_210, s_244_211, s_244_212, s_244_213, s_244_214, s_244_215, s_244_216, s_244_217, s_244_218, s_244_219, s_244_220, s_244_221, s_244_222, s_244_223, s_244_224, s_244_225, s_244_226, s_244_227, s_244_228, s_244_229, s_244_230, s_244_231, s_244_232, s_244_233, s_244_234, s_244_235, s_244_236, s_244_237, s_244_238, s_244_239, s_244_240, ra, u0, u1, u2, hoo, g2' _, z1, yix3_0, yix3_1, yix3_2, ycl_0, ycl_1, ycl_2, show ¬ (1 : Int32) = 0 from by decide, ne_eq, not_true_eq_false, if_true, if_false, hcl_s, true_and, hgf_s, hsel_0, hsel_1, hsel_2, hsel_3, hsel_4, hsel_5, hsel_6, hsel_7, hsel_8, hset_0, hset_1, hset_2, hset_3, hset_4, hset_5, hset_6, hset_7, hset_8, hpf_s, hcl_s, hai_s, hpi_0, hpi_1, hln_0, hln_1, List.length_cons, List.length_nil, xwr_1, xwr_2, xnew_1, xnew_n, xnew_s, xnew_z, Nat.reduceLT, ite_true, and_self, hp_8_0, hp_8_1, hn_8_1, hp_8_2, hn_8_2, hp_9_0, hp_9_1, hp_9_2, hp_9_3, hp_9_4, hp_9_5, hn_9_5, hp_9_6, hn_9_6, hp_9_7, hn_9_7, hp_10_0, hp_10_1, hp_10_2, hn_10_2, hp_10_3, hn_10_3, hp_11_0, hp_12_0, hn_12_0, hp_12_1, hp_12_2, hp_12_3, hp_12_4, hp_12_5, hn_12_5, hp_12_6, hn_12_6, hp_12_7, hp_12_8, hp_13_0, hn_13_0, hp_13_1, hp_13_2, hp_13_3, hp_14_0, hn_14_0, hp_14_1, hp_14_2, hp_14_3, xdef_8, xdef_9, xdef_10, xdef_11, xdef_12, xdef_13, xdef_14, Gk_v, Gk_n, xcat_nil, xcat_i, xcat_r, xcat_l, xcat_d, Nat.zero_le, Nat.reduceAdd, Nat.reduceLeDiff, true_and, and_true, ykl_i, ykl_r, ykl_n, ykl_l]
        exact H τ2 false ⟨R, cv, dn', en', D, k, E, eo, en, W2.mono (by omega), (F1.trans W.Z F2').mono (by omega) (by omega), Or.inr ⟨rfl, rfl, rfl⟩⟩ _ _ _ _ _ _ _ _ _ _ _ _ _ _ _ _ _ _ _ _
  · rw [decide_eq_false hp, show yb false = 0 from rfl]
    have hcc : (if D.n ≤ p ∨ D.n ≤ to then 3 else if to < p ∨ (255 < v0 ∨ (255 < v1 ∨ 255 < v2)) then 2 else 0) = 3 := by
      rw [if_pos (by omega)]
    obtain ⟨τ2, g2, I2, F2⟩ := c_193t3 (d := d + 56) I1 (by omega) (f := p) (q := to) (r := v0) (g := v1) (b := v2) (by omega) (by omega) (by omega) (by omega) (by omega) hcc
    have g2' : Ra (d + 59) 193 [.ref 0, .int (yI p), .int (yI to), .int (yI v0), .int (yI v1), .int (yI v2)] σ1 (.inl (some (.int (-2000000097)))) τ2 := g2
    obtain ⟨W2, F2'⟩ := W1.cls I2 F2
    simp only [s_244_195, s_244_196, s_244_197, s_244_198, s_244_199, s_244_200, s_244_201, s_244_202, s_244_203, s_244_204, s_244_205, s_244_206, s_244_207, s_244_208, s_244_209, s_244_210, s_244_211, s_244_212, s_244_213, s_244_214, s_244_215, s_244_216, s_244_217, s_244_218, s_244_219, s_244_220, s_244_221, s_244_222, s_244_223, s_244_224, s_244_225, s_244_226, s_244_227, s_244_228, s_244_229, s_244_230, s_244_231, s_244_232, s_244_233, s_244_234, s_244_235, s_244_236, s_244_237, s_244_238, s_244_239, s_244_240, ra, u0, u1, u2, hoo, g2' _, yix3_0, yix3_1, yix3_2, ycl_0, ycl_1, ycl_2, ne_eq, not_true_eq_false, if_true, if_false, hcl_s, true_and, hgf_s, hsel_0, hsel_1, hsel_2, hsel_3, hsel_4, hsel_5, hsel_6, hsel_7, hsel_8, hset_0, hset_1, hset_2, hset_3, hset_4, hset_5, hset_6, hset_7, hset_8, hpf_s, hcl_s, hai_s, hpi_0, hpi_1, hln_0, hln_1, List.length_cons, List.length_nil, xwr_1, xwr_2, xnew_1, xnew_n, xnew_s, xnew_z, Nat.reduceLT, ite_true, and_self, hp_8_0, hp_8_1, hn_8_1, hp_8_2, hn_8_2, hp_9_0, hp_9_1, hp_9_2, hp_9_3, hp_9_4, hp_9_5, hn_9_5, hp_9_6, hn_9_6, hp_9_7, hn_9_7, hp_10_0, hp_10_1, hp_10_2, hn_10_2, hp_10_3, hn_10_3, hp_11_0, hp_12_0, hn_12_0, hp_12_1, hp_12_2, hp_12_3, hp_12_4, hp_12_5, hn_12_5, hp_12_6, hn_12_6, hp_12_7, hp_12_8, hp_13_0, hn_13_0, hp_13_1, hp_13_2, hp_13_3, hp_14_0, hn_14_0, hp_14_1, hp_14_2, hp_14_3, xdef_8, xdef_9, xdef_10, xdef_11, xdef_12, xdef_13, xdef_14, Gk_v, Gk_n, xcat_nil, xcat_i, xcat_r, xcat_l, xcat_d, Nat.zero_le, Nat.reduceAdd, Nat.reduceLeDiff, true_and, and_true, ykl_i, ykl_r, ykl_n, ykl_l]
    exact H τ2 false ⟨R, cv, dn', en', D, k, E, eo, en, W2.mono (by omega), (F1.trans W.Z F2').mono (by omega) (by omega), Or.inr ⟨rfl, rfl, rfl⟩⟩ _ _ _ _ _ _ _ _ _ _ _ _ _ _ _ _ _ _ _ _
end

/-! ===== the law's helpers ===== -/
section
variable {d : Nat} {σ τ : xS}
theorem h_184 {a0 : Int32} {v : Int32} (ho : ∃ fs, xRd σ 0 = some (.inr (7, fs))) (hm : Ra d 95 [.ref 0, .int a0] σ (.inl (some (.int v))) τ) : Ra (d + 1) 184 [.ref 0, .int a0] σ (.inl (some (.int v))) τ := by
  intro Q
  obtain ⟨fs, ho⟩ := ho
  show G (d + 1) 184 0 [some (.ref 0), some (.int a0), none] [] σ Q ↔ _
  simp only [s_184_0, s_184_1, s_184_2, s_184_3, ho, hm, hgf_s, hsel_0, hsel_1, hsel_2, hsel_3, hsel_4, hsel_5, hsel_6, hsel_7, hsel_8, hset_0, hset_1, hset_2, hset_3, hset_4, hset_5, hset_6, hset_7, hset_8, hpf_s, hcl_s, hai_s, hpi_0, hpi_1, hln_0, hln_1, List.length_cons, List.length_nil, xwr_1, xwr_2, xnew_1, xnew_n, xnew_s, xnew_z, Nat.reduceLT, ite_true, and_self, hp_8_0, hp_8_1, hn_8_1, hp_8_2, hn_8_2, hp_9_0, hp_9_1, hp_9_2, hp_9_3, hp_9_4, hp_9_5, hn_9_5, hp_9_6, hn_9_6, hp_9_7, hn_9_7, hp_10_0, hp_10_1, hp_10_2, hn_10_2, hp_10_3, hn_10_3, hp_11_0, hp_12_0, hn_12_0, hp_12_1, hp_12_2, hp_12_3, hp_12_4, hp_12_5, hn_12_5, hp_12_6, hn_12_6, hp_12_7, hp_12_8, hp_13_0, hn_13_0, hp_13_1, hp_13_2, hp_13_3, hp_14_0, hn_14_0, hp_14_1, hp_14_2, hp_14_3, xdef_8, xdef_9, xdef_10, xdef_11, xdef_12, xdef_13, xdef_14, Gk_v, Gk_n, xcat_nil, xcat_i, xcat_r, xcat_l, xcat_d, Nat.zero_le, Nat.reduceAdd, Nat.reduceLeDiff, true_and, and_true, ykl_i, ykl_r, ykl_n, ykl_l]
theorem h_184_0 {a0 : Int32} (ho : ∃ fs, xRd σ 0 = some (.inr (7, fs))) (hm : Ra d 95 [.ref 0, .int a0] σ (.inr 0) τ) : Ra (d + 1) 184 [.ref 0, .int a0] σ (.inl (some (.int (-2000000098)))) τ := by
  intro Q
  obtain ⟨fs, ho⟩ := ho
  have hh : xhd 184 2 0 = some (5, 2) := by decide
  show G (d + 1) 184 0 [some (.ref 0), some (.int a0), none] [] σ Q ↔ _
  simp only [s_184_0, s_184_1, s_184_2, ho, hm, Gk_e, hh, hgf_s, hsel_0, hsel_1, hsel_2, hsel_3, hsel_4, hsel_5, hsel_6, hsel_7, hsel_8, hset_0, hset_1, hset_2, hset_3, hset_4, hset_5, hset_6, hset_7, hset_8, hpf_s, hcl_s, hai_s, hpi_0, hpi_1, hln_0, hln_1, List.length_cons, List.length_nil, xwr_1, xwr_2, xnew_1, xnew_n, xnew_s, xnew_z, Nat.reduceLT, ite_true, and_self, hp_8_0, hp_8_1, hn_8_1, hp_8_2, hn_8_2, hp_9_0, hp_9_1, hp_9_2, hp_9_3, hp_9_4, hp_9_5, hn_9_5, hp_9_6, hn_9_6, hp_9_7, hn_9_7, hp_10_0, hp_10_1, hp_10_2, hn_10_2, hp_10_3, hn_10_3, hp_11_0, hp_12_0, hn_12_0, hp_12_1, hp_12_2, hp_12_3, hp_12_4, hp_12_5, hn_12_5, hp_12_6, hn_12_6, hp_12_7, hp_12_8, hp_13_0, hn_13_0, hp_13_1, hp_13_2, hp_13_3, hp_14_0, hn_14_0, hp_14_1, hp_14_2, hp_14_3, xdef_8, xdef_9, xdef_10, xdef_11, xdef_12, xdef_13, xdef_14, Gk_v, Gk_n, xcat_nil, xcat_i, xcat_r, xcat_l, xcat_d, Nat.zero_le, Nat.reduceAdd, Nat.reduceLeDiff, true_and, and_true, ykl_i, ykl_r, ykl_n, ykl_l]
  show G (d + 1) 184 5 [some (.ref 0), some (.int a0), none] [] τ Q ↔ _
  simp only [s_184_5, s_184_6]
theorem h_185 {a0 : Int32} {v : Int32} (ho : ∃ fs, xRd σ 0 = some (.inr (7, fs))) (hm : Ra d 96 [.ref 0, .int a0] σ (.inl (some (.int v))) τ) : Ra (d + 1) 185 [.ref 0, .int a0] σ (.inl (some (.int v))) τ := by
  intro Q
  obtain ⟨fs, ho⟩ := ho
  show G (d + 1) 185 0 [some (.ref 0), some (.int a0), none] [] σ Q ↔ _
  simp only [s_185_0, s_185_1, s_185_2, s_185_3, ho, hm, hgf_s, hsel_0, hsel_1, hsel_2, hsel_3, hsel_4, hsel_5, hsel_6, hsel_7, hsel_8, hset_0, hset_1, hset_2, hset_3, hset_4, hset_5, hset_6, hset_7, hset_8, hpf_s, hcl_s, hai_s, hpi_0, hpi_1, hln_0, hln_1, List.length_cons, List.length_nil, xwr_1, xwr_2, xnew_1, xnew_n, xnew_s, xnew_z, Nat.reduceLT, ite_true, and_self, hp_8_0, hp_8_1, hn_8_1, hp_8_2, hn_8_2, hp_9_0, hp_9_1, hp_9_2, hp_9_3, hp_9_4, hp_9_5, hn_9_5, hp_9_6, hn_9_6, hp_9_7, hn_9_7, hp_10_0, hp_10_1, hp_10_2, hn_10_2, hp_10_3, hn_10_3, hp_11_0, hp_12_0, hn_12_0, hp_12_1, hp_12_2, hp_12_3, hp_12_4, hp_12_5, hn_12_5, hp_12_6, hn_12_6, hp_12_7, hp_12_8, hp_13_0, hn_13_0, hp_13_1, hp_13_2, hp_13_3, hp_14_0, hn_14_0, hp_14_1, hp_14_2, hp_14_3, xdef_8, xdef_9, xdef_10, xdef_11, xdef_12, xdef_13, xdef_14, Gk_v, Gk_n, xcat_nil, xcat_i, xcat_r, xcat_l, xcat_d, Nat.zero_le, Nat.reduceAdd, Nat.reduceLeDiff, true_and, and_true, ykl_i, ykl_r, ykl_n, ykl_l]
theorem h_185_0 {a0 : Int32} (ho : ∃ fs, xRd σ 0 = some (.inr (7, fs))) (hm : Ra d 96 [.ref 0, .int a0] σ (.inr 0) τ) : Ra (d + 1) 185 [.ref 0, .int a0] σ (.inl (some (.int (-2000000098)))) τ := by
  intro Q
  obtain ⟨fs, ho⟩ := ho
  have hh : xhd 185 2 0 = some (5, 2) := by decide
  show G (d + 1) 185 0 [some (.ref 0), some (.int a0), none] [] σ Q ↔ _
  simp only [s_185_0, s_185_1, s_185_2, ho, hm, Gk_e, hh, hgf_s, hsel_0, hsel_1, hsel_2, hsel_3, hsel_4, hsel_5, hsel_6, hsel_7, hsel_8, hset_0, hset_1, hset_2, hset_3, hset_4, hset_5, hset_6, hset_7, hset_8, hpf_s, hcl_s, hai_s, hpi_0, hpi_1, hln_0, hln_1, List.length_cons, List.length_nil, xwr_1, xwr_2, xnew_1, xnew_n, xnew_s, xnew_z, Nat.reduceLT, ite_true, and_self, hp_8_0, hp_8_1, hn_8_1, hp_8_2, hn_8_2, hp_9_0, hp_9_1, hp_9_2, hp_9_3, hp_9_4, hp_9_5, hn_9_5, hp_9_6, hn_9_6, hp_9_7, hn_9_7, hp_10_0, hp_10_1, hp_10_2, hn_10_2, hp_10_3, hn_10_3, hp_11_0, hp_12_0, hn_12_0, hp_12_1, hp_12_2, hp_12_3, hp_12_4, hp_12_5, hn_12_5, hp_12_6, hn_12_6, hp_12_7, hp_12_8, hp_13_0, hn_13_0, hp_13_1, hp_13_2, hp_13_3, hp_14_0, hn_14_0, hp_14_1, hp_14_2, hp_14_3, xdef_8, xdef_9, xdef_10, xdef_11, xdef_12, xdef_13, xdef_14, Gk_v, Gk_n, xcat_nil, xcat_i, xcat_r, xcat_l, xcat_d, Nat.zero_le, Nat.reduceAdd, Nat.reduceLeDiff, true_and, and_true, ykl_i, ykl_r, ykl_n, ykl_l]
  show G (d + 1) 185 5 [some (.ref 0), some (.int a0), none] [] τ Q ↔ _
  simp only [s_185_5, s_185_6]
theorem h_186 {a0 : Int32} {v : Int32} (ho : ∃ fs, xRd σ 0 = some (.inr (7, fs))) (hm : Ra d 99 [.ref 0, .int a0] σ (.inl (some (.int v))) τ) : Ra (d + 1) 186 [.ref 0, .int a0] σ (.inl (some (.int v))) τ := by
  intro Q
  obtain ⟨fs, ho⟩ := ho
  show G (d + 1) 186 0 [some (.ref 0), some (.int a0), none] [] σ Q ↔ _
  simp only [s_186_0, s_186_1, s_186_2, s_186_3, ho, hm, hgf_s, hsel_0, hsel_1, hsel_2, hsel_3, hsel_4, hsel_5, hsel_6, hsel_7, hsel_8, hset_0, hset_1, hset_2, hset_3, hset_4, hset_5, hset_6, hset_7, hset_8, hpf_s, hcl_s, hai_s, hpi_0, hpi_1, hln_0, hln_1, List.length_cons, List.length_nil, xwr_1, xwr_2, xnew_1, xnew_n, xnew_s, xnew_z, Nat.reduceLT, ite_true, and_self, hp_8_0, hp_8_1, hn_8_1, hp_8_2, hn_8_2, hp_9_0, hp_9_1, hp_9_2, hp_9_3, hp_9_4, hp_9_5, hn_9_5, hp_9_6, hn_9_6, hp_9_7, hn_9_7, hp_10_0, hp_10_1, hp_10_2, hn_10_2, hp_10_3, hn_10_3, hp_11_0, hp_12_0, hn_12_0, hp_12_1, hp_12_2, hp_12_3, hp_12_4, hp_12_5, hn_12_5, hp_12_6, hn_12_6, hp_12_7, hp_12_8, hp_13_0, hn_13_0, hp_13_1, hp_13_2, hp_13_3, hp_14_0, hn_14_0, hp_14_1, hp_14_2, hp_14_3, xdef_8, xdef_9, xdef_10, xdef_11, xdef_12, xdef_13, xdef_14, Gk_v, Gk_n, xcat_nil, xcat_i, xcat_r, xcat_l, xcat_d, Nat.zero_le, Nat.reduceAdd, Nat.reduceLeDiff, true_and, and_true, ykl_i, ykl_r, ykl_n, ykl_l]
theorem h_186_0 {a0 : Int32} (ho : ∃ fs, xRd σ 0 = some (.inr (7, fs))) (hm : Ra d 99 [.ref 0, .int a0] σ (.inr 0) τ) : Ra (d + 1) 186 [.ref 0, .int a0] σ (.inl (some (.int (-2000000098)))) τ := by
  intro Q
  obtain ⟨fs, ho⟩ := ho
  have hh : xhd 186 2 0 = some (5, 2) := by decide
  show G (d + 1) 186 0 [some (.ref 0), some (.int a0), none] [] σ Q ↔ _
  simp only [s_186_0, s_186_1, s_186_2, ho, hm, Gk_e, hh, hgf_s, hsel_0, hsel_1, hsel_2, hsel_3, hsel_4, hsel_5, hsel_6, hsel_7, hsel_8, hset_0, hset_1, hset_2, hset_3, hset_4, hset_5, hset_6, hset_7, hset_8, hpf_s, hcl_s, hai_s, hpi_0, hpi_1, hln_0, hln_1, List.length_cons, List.length_nil, xwr_1, xwr_2, xnew_1, xnew_n, xnew_s, xnew_z, Nat.reduceLT, ite_true, and_self, hp_8_0, hp_8_1, hn_8_1, hp_8_2, hn_8_2, hp_9_0, hp_9_1, hp_9_2, hp_9_3, hp_9_4, hp_9_5, hn_9_5, hp_9_6, hn_9_6, hp_9_7, hn_9_7, hp_10_0, hp_10_1, hp_10_2, hn_10_2, hp_10_3, hn_10_3, hp_11_0, hp_12_0, hn_12_0, hp_12_1, hp_12_2, hp_12_3, hp_12_4, hp_12_5, hn_12_5, hp_12_6, hn_12_6, hp_12_7, hp_12_8, hp_13_0, hn_13_0, hp_13_1, hp_13_2, hp_13_3, hp_14_0, hn_14_0, hp_14_1, hp_14_2, hp_14_3, xdef_8, xdef_9, xdef_10, xdef_11, xdef_12, xdef_13, xdef_14, Gk_v, Gk_n, xcat_nil, xcat_i, xcat_r, xcat_l, xcat_d, Nat.zero_le, Nat.reduceAdd, Nat.reduceLeDiff, true_and, and_true, ykl_i, ykl_r, ykl_n, ykl_l]
  show G (d + 1) 186 5 [some (.ref 0), some (.int a0), none] [] τ Q ↔ _
  simp only [s_186_5, s_186_6]
theorem h_187 {a0 a1 : Int32} {v : Int32} (ho : ∃ fs, xRd σ 0 = some (.inr (7, fs))) (hm : Ra d 100 [.ref 0, .int a0, .int a1] σ (.inl (some (.int v))) τ) : Ra (d + 1) 187 [.ref 0, .int a0, .int a1] σ (.inl (some (.int v))) τ := by
  intro Q
  obtain ⟨fs, ho⟩ := ho
  show G (d + 1) 187 0 [some (.ref 0), some (.int a0), some (.int a1), none] [] σ Q ↔ _
  simp only [s_187_0, s_187_1, s_187_2, s_187_3, s_187_4, ho, hm, hgf_s, hsel_0, hsel_1, hsel_2, hsel_3, hsel_4, hsel_5, hsel_6, hsel_7, hsel_8, hset_0, hset_1, hset_2, hset_3, hset_4, hset_5, hset_6, hset_7, hset_8, hpf_s, hcl_s, hai_s, hpi_0, hpi_1, hln_0, hln_1, List.length_cons, List.length_nil, xwr_1, xwr_2, xnew_1, xnew_n, xnew_s, xnew_z, Nat.reduceLT, ite_true, and_self, hp_8_0, hp_8_1, hn_8_1, hp_8_2, hn_8_2, hp_9_0, hp_9_1, hp_9_2, hp_9_3, hp_9_4, hp_9_5, hn_9_5, hp_9_6, hn_9_6, hp_9_7, hn_9_7, hp_10_0, hp_10_1, hp_10_2, hn_10_2, hp_10_3, hn_10_3, hp_11_0, hp_12_0, hn_12_0, hp_12_1, hp_12_2, hp_12_3, hp_12_4, hp_12_5, hn_12_5, hp_12_6, hn_12_6, hp_12_7, hp_12_8, hp_13_0, hn_13_0, hp_13_1, hp_13_2, hp_13_3, hp_14_0, hn_14_0, hp_14_1, hp_14_2, hp_14_3, xdef_8, xdef_9, xdef_10, xdef_11, xdef_12, xdef_13, xdef_14, Gk_v, Gk_n, xcat_nil, xcat_i, xcat_r, xcat_l, xcat_d, Nat.zero_le, Nat.reduceAdd, Nat.reduceLeDiff, true_and, and_true, ykl_i, ykl_r, ykl_n, ykl_l]
theorem h_187_1 {a0 a1 : Int32} (ho : ∃ fs, xRd σ 0 = some (.inr (7, fs))) (hm : Ra d 100 [.ref 0, .int a0, .int a1] σ (.inr 1) τ) : Ra (d + 1) 187 [.ref 0, .int a0, .int a1] σ (.inl (some (.int (-2000000097)))) τ := by
  intro Q
  obtain ⟨fs, ho⟩ := ho
  have hh : xhd 187 3 1 = some (6, 3) := by decide
  show G (d + 1) 187 0 [some (.ref 0), some (.int a0), some (.int a1), none] [] σ Q ↔ _
  simp only [s_187_0, s_187_1, s_187_2, s_187_3, ho, hm, Gk_e, hh, hgf_s, hsel_0, hsel_1, hsel_2, hsel_3, hsel_4, hsel_5, hsel_6, hsel_7, hsel_8, hset_0, hset_1, hset_2, hset_3, hset_4, hset_5, hset_6, hset_7, hset_8, hpf_s, hcl_s, hai_s, hpi_0, hpi_1, hln_0, hln_1, List.length_cons, List.length_nil, xwr_1, xwr_2, xnew_1, xnew_n, xnew_s, xnew_z, Nat.reduceLT, ite_true, and_self, hp_8_0, hp_8_1, hn_8_1, hp_8_2, hn_8_2, hp_9_0, hp_9_1, hp_9_2, hp_9_3, hp_9_4, hp_9_5, hn_9_5, hp_9_6, hn_9_6, hp_9_7, hn_9_7, hp_10_0, hp_10_1, hp_10_2, hn_10_2, hp_10_3, hn_10_3, hp_11_0, hp_12_0, hn_12_0, hp_12_1, hp_12_2, hp_12_3, hp_12_4, hp_12_5, hn_12_5, hp_12_6, hn_12_6, hp_12_7, hp_12_8, hp_13_0, hn_13_0, hp_13_1, hp_13_2, hp_13_3, hp_14_0, hn_14_0, hp_14_1, hp_14_2, hp_14_3, xdef_8, xdef_9, xdef_10, xdef_11, xdef_12, xdef_13, xdef_14, Gk_v, Gk_n, xcat_nil, xcat_i, xcat_r, xcat_l, xcat_d, Nat.zero_le, Nat.reduceAdd, Nat.reduceLeDiff, true_and, and_true, ykl_i, ykl_r, ykl_n, ykl_l]
  show G (d + 1) 187 6 [some (.ref 0), some (.int a0), some (.int a1), none] [] τ Q ↔ _
  simp only [s_187_6, s_187_7]
theorem h_187_0 {a0 a1 : Int32} (ho : ∃ fs, xRd σ 0 = some (.inr (7, fs))) (hm : Ra d 100 [.ref 0, .int a0, .int a1] σ (.inr 0) τ) : Ra (d + 1) 187 [.ref 0, .int a0, .int a1] σ (.inl (some (.int (-2000000098)))) τ := by
  intro Q
  obtain ⟨fs, ho⟩ := ho
  have hh : xhd 187 3 0 = some (9, 3) := by decide
  show G (d + 1) 187 0 [some (.ref 0), some (.int a0), some (.int a1), none] [] σ Q ↔ _
  simp only [s_187_0, s_187_1, s_187_2, s_187_3, ho, hm, Gk_e, hh, hgf_s, hsel_0, hsel_1, hsel_2, hsel_3, hsel_4, hsel_5, hsel_6, hsel_7, hsel_8, hset_0, hset_1, hset_2, hset_3, hset_4, hset_5, hset_6, hset_7, hset_8, hpf_s, hcl_s, hai_s, hpi_0, hpi_1, hln_0, hln_1, List.length_cons, List.length_nil, xwr_1, xwr_2, xnew_1, xnew_n, xnew_s, xnew_z, Nat.reduceLT, ite_true, and_self, hp_8_0, hp_8_1, hn_8_1, hp_8_2, hn_8_2, hp_9_0, hp_9_1, hp_9_2, hp_9_3, hp_9_4, hp_9_5, hn_9_5, hp_9_6, hn_9_6, hp_9_7, hn_9_7, hp_10_0, hp_10_1, hp_10_2, hn_10_2, hp_10_3, hn_10_3, hp_11_0, hp_12_0, hn_12_0, hp_12_1, hp_12_2, hp_12_3, hp_12_4, hp_12_5, hn_12_5, hp_12_6, hn_12_6, hp_12_7, hp_12_8, hp_13_0, hn_13_0, hp_13_1, hp_13_2, hp_13_3, hp_14_0, hn_14_0, hp_14_1, hp_14_2, hp_14_3, xdef_8, xdef_9, xdef_10, xdef_11, xdef_12, xdef_13, xdef_14, Gk_v, Gk_n, xcat_nil, xcat_i, xcat_r, xcat_l, xcat_d, Nat.zero_le, Nat.reduceAdd, Nat.reduceLeDiff, true_and, and_true, ykl_i, ykl_r, ykl_n, ykl_l]
  show G (d + 1) 187 9 [some (.ref 0), some (.int a0), some (.int a1), none] [] τ Q ↔ _
  simp only [s_187_9, s_187_10]
theorem h_188 {a0 a1 : Int32} {v : Int32} (ho : ∃ fs, xRd σ 0 = some (.inr (7, fs))) (hm : Ra d 101 [.ref 0, .int a0, .int a1] σ (.inl (some (.int v))) τ) : Ra (d + 1) 188 [.ref 0, .int a0, .int a1] σ (.inl (some (.int v))) τ := by
  intro Q
  obtain ⟨fs, ho⟩ := ho
  show G (d + 1) 188 0 [some (.ref 0), some (.int a0), some (.int a1), none] [] σ Q ↔ _
  simp only [s_188_0, s_188_1, s_188_2, s_188_3, s_188_4, ho, hm, hgf_s, hsel_0, hsel_1, hsel_2, hsel_3, hsel_4, hsel_5, hsel_6, hsel_7, hsel_8, hset_0, hset_1, hset_2, hset_3, hset_4, hset_5, hset_6, hset_7, hset_8, hpf_s, hcl_s, hai_s, hpi_0, hpi_1, hln_0, hln_1, List.length_cons, List.length_nil, xwr_1, xwr_2, xnew_1, xnew_n, xnew_s, xnew_z, Nat.reduceLT, ite_true, and_self, hp_8_0, hp_8_1, hn_8_1, hp_8_2, hn_8_2, hp_9_0, hp_9_1, hp_9_2, hp_9_3, hp_9_4, hp_9_5, hn_9_5, hp_9_6, hn_9_6, hp_9_7, hn_9_7, hp_10_0, hp_10_1, hp_10_2, hn_10_2, hp_10_3, hn_10_3, hp_11_0, hp_12_0, hn_12_0, hp_12_1, hp_12_2, hp_12_3, hp_12_4, hp_12_5, hn_12_5, hp_12_6, hn_12_6, hp_12_7, hp_12_8, hp_13_0, hn_13_0, hp_13_1, hp_13_2, hp_13_3, hp_14_0, hn_14_0, hp_14_1, hp_14_2, hp_14_3, xdef_8, xdef_9, xdef_10, xdef_11, xdef_12, xdef_13, xdef_14, Gk_v, Gk_n, xcat_nil, xcat_i, xcat_r, xcat_l, xcat_d, Nat.zero_le, Nat.reduceAdd, Nat.reduceLeDiff, true_and, and_true, ykl_i, ykl_r, ykl_n, ykl_l]
theorem h_188_1 {a0 a1 : Int32} (ho : ∃ fs, xRd σ 0 = some (.inr (7, fs))) (hm : Ra d 101 [.ref 0, .int a0, .int a1] σ (.inr 1) τ) : Ra (d + 1) 188 [.ref 0, .int a0, .int a1] σ (.inl (some (.int (-2000000097)))) τ := by
  intro Q
  obtain ⟨fs, ho⟩ := ho
  have hh : xhd 188 3 1 = some (6, 3) := by decide
  show G (d + 1) 188 0 [some (.ref 0), some (.int a0), some (.int a1), none] [] σ Q ↔ _
  simp only [s_188_0, s_188_1, s_188_2, s_188_3, ho, hm, Gk_e, hh, hgf_s, hsel_0, hsel_1, hsel_2, hsel_3, hsel_4, hsel_5, hsel_6, hsel_7, hsel_8, hset_0, hset_1, hset_2, hset_3, hset_4, hset_5, hset_6, hset_7, hset_8, hpf_s, hcl_s, hai_s, hpi_0, hpi_1, hln_0, hln_1, List.length_cons, List.length_nil, xwr_1, xwr_2, xnew_1, xnew_n, xnew_s, xnew_z, Nat.reduceLT, ite_true, and_self, hp_8_0, hp_8_1, hn_8_1, hp_8_2, hn_8_2, hp_9_0, hp_9_1, hp_9_2, hp_9_3, hp_9_4, hp_9_5, hn_9_5, hp_9_6, hn_9_6, hp_9_7, hn_9_7, hp_10_0, hp_10_1, hp_10_2, hn_10_2, hp_10_3, hn_10_3, hp_11_0, hp_12_0, hn_12_0, hp_12_1, hp_12_2, hp_12_3, hp_12_4, hp_12_5, hn_12_5, hp_12_6, hn_12_6, hp_12_7, hp_12_8, hp_13_0, hn_13_0, hp_13_1, hp_13_2, hp_13_3, hp_14_0, hn_14_0, hp_14_1, hp_14_2, hp_14_3, xdef_8, xdef_9, xdef_10, xdef_11, xdef_12, xdef_13, xdef_14, Gk_v, Gk_n, xcat_nil, xcat_i, xcat_r, xcat_l, xcat_d, Nat.zero_le, Nat.reduceAdd, Nat.reduceLeDiff, true_and, and_true, ykl_i, ykl_r, ykl_n, ykl_l]
  show G (d + 1) 188 6 [some (.ref 0), some (.int a0), some (.int a1), none] [] τ Q ↔ _
  simp only [s_188_6, s_188_7]
theorem h_188_0 {a0 a1 : Int32} (ho : ∃ fs, xRd σ 0 = some (.inr (7, fs))) (hm : Ra d 101 [.ref 0, .int a0, .int a1] σ (.inr 0) τ) : Ra (d + 1) 188 [.ref 0, .int a0, .int a1] σ (.inl (some (.int (-2000000098)))) τ := by
  intro Q
  obtain ⟨fs, ho⟩ := ho
  have hh : xhd 188 3 0 = some (9, 3) := by decide
  show G (d + 1) 188 0 [some (.ref 0), some (.int a0), some (.int a1), none] [] σ Q ↔ _
  simp only [s_188_0, s_188_1, s_188_2, s_188_3, ho, hm, Gk_e, hh, hgf_s, hsel_0, hsel_1, hsel_2, hsel_3, hsel_4, hsel_5, hsel_6, hsel_7, hsel_8, hset_0, hset_1, hset_2, hset_3, hset_4, hset_5, hset_6, hset_7, hset_8, hpf_s, hcl_s, hai_s, hpi_0, hpi_1, hln_0, hln_1, List.length_cons, List.length_nil, xwr_1, xwr_2, xnew_1, xnew_n, xnew_s, xnew_z, Nat.reduceLT, ite_true, and_self, hp_8_0, hp_8_1, hn_8_1, hp_8_2, hn_8_2, hp_9_0, hp_9_1, hp_9_2, hp_9_3, hp_9_4, hp_9_5, hn_9_5, hp_9_6, hn_9_6, hp_9_7, hn_9_7, hp_10_0, hp_10_1, hp_10_2, hn_10_2, hp_10_3, hn_10_3, hp_11_0, hp_12_0, hn_12_0, hp_12_1, hp_12_2, hp_12_3, hp_12_4, hp_12_5, hn_12_5, hp_12_6, hn_12_6, hp_12_7, hp_12_8, hp_13_0, hn_13_0, hp_13_1, hp_13_2, hp_13_3, hp_14_0, hn_14_0, hp_14_1, hp_14_2, hp_14_3, xdef_8, xdef_9, xdef_10, xdef_11, xdef_12, xdef_13, xdef_14, Gk_v, Gk_n, xcat_nil, xcat_i, xcat_r, xcat_l, xcat_d, Nat.zero_le, Nat.reduceAdd, Nat.reduceLeDiff, true_and, and_true, ykl_i, ykl_r, ykl_n, ykl_l]
  show G (d + 1) 188 9 [some (.ref 0), some (.int a0), some (.int a1), none] [] τ Q ↔ _
  simp only [s_188_9, s_188_10]
theorem h_189 {a0 : Int32} {v : Int32} (ho : ∃ fs, xRd σ 0 = some (.inr (7, fs))) (hm : Ra d 102 [.ref 0, .int a0] σ (.inl (some (.int v))) τ) : Ra (d + 1) 189 [.ref 0, .int a0] σ (.inl (some (.int v))) τ := by
  intro Q
  obtain ⟨fs, ho⟩ := ho
  show G (d + 1) 189 0 [some (.ref 0), some (.int a0), none] [] σ Q ↔ _
  simp only [s_189_0, s_189_1, s_189_2, s_189_3, ho, hm, hgf_s, hsel_0, hsel_1, hsel_2, hsel_3, hsel_4, hsel_5, hsel_6, hsel_7, hsel_8, hset_0, hset_1, hset_2, hset_3, hset_4, hset_5, hset_6, hset_7, hset_8, hpf_s, hcl_s, hai_s, hpi_0, hpi_1, hln_0, hln_1, List.length_cons, List.length_nil, xwr_1, xwr_2, xnew_1, xnew_n, xnew_s, xnew_z, Nat.reduceLT, ite_true, and_self, hp_8_0, hp_8_1, hn_8_1, hp_8_2, hn_8_2, hp_9_0, hp_9_1, hp_9_2, hp_9_3, hp_9_4, hp_9_5, hn_9_5, hp_9_6, hn_9_6, hp_9_7, hn_9_7, hp_10_0, hp_10_1, hp_10_2, hn_10_2, hp_10_3, hn_10_3, hp_11_0, hp_12_0, hn_12_0, hp_12_1, hp_12_2, hp_12_3, hp_12_4, hp_12_5, hn_12_5, hp_12_6, hn_12_6, hp_12_7, hp_12_8, hp_13_0, hn_13_0, hp_13_1, hp_13_2, hp_13_3, hp_14_0, hn_14_0, hp_14_1, hp_14_2, hp_14_3, xdef_8, xdef_9, xdef_10, xdef_11, xdef_12, xdef_13, xdef_14, Gk_v, Gk_n, xcat_nil, xcat_i, xcat_r, xcat_l, xcat_d, Nat.zero_le, Nat.reduceAdd, Nat.reduceLeDiff, true_and, and_true, ykl_i, ykl_r, ykl_n, ykl_l]
theorem h_189_1 {a0 : Int32} (ho : ∃ fs, xRd σ 0 = some (.inr (7, fs))) (hm : Ra d 102 [.ref 0, .int a0] σ (.inr 1) τ) : Ra (d + 1) 189 [.ref 0, .int a0] σ (.inl (some (.int (-2000000097)))) τ := by
  intro Q
  obtain ⟨fs, ho⟩ := ho
  have hh : xhd 189 2 1 = some (5, 2) := by decide
  show G (d + 1) 189 0 [some (.ref 0), some (.int a0), none] [] σ Q ↔ _
  simp only [s_189_0, s_189_1, s_189_2, ho, hm, Gk_e, hh, hgf_s, hsel_0, hsel_1, hsel_2, hsel_3, hsel_4, hsel_5, hsel_6, hsel_7, hsel_8, hset_0, hset_1, hset_2, hset_3, hset_4, hset_5, hset_6, hset_7, hset_8, hpf_s, hcl_s, hai_s, hpi_0, hpi_1, hln_0, hln_1, List.length_cons, List.length_nil, xwr_1, xwr_2, xnew_1, xnew_n, xnew_s, xnew_z, Nat.reduceLT, ite_true, and_self, hp_8_0, hp_8_1, hn_8_1, hp_8_2, hn_8_2, hp_9_0, hp_9_1, hp_9_2, hp_9_3, hp_9_4, hp_9_5, hn_9_5, hp_9_6, hn_9_6, hp_9_7, hn_9_7, hp_10_0, hp_10_1, hp_10_2, hn_10_2, hp_10_3, hn_10_3, hp_11_0, hp_12_0, hn_12_0, hp_12_1, hp_12_2, hp_12_3, hp_12_4, hp_12_5, hn_12_5, hp_12_6, hn_12_6, hp_12_7, hp_12_8, hp_13_0, hn_13_0, hp_13_1, hp_13_2, hp_13_3, hp_14_0, hn_14_0, hp_14_1, hp_14_2, hp_14_3, xdef_8, xdef_9, xdef_10, xdef_11, xdef_12, xdef_13, xdef_14, Gk_v, Gk_n, xcat_nil, xcat_i, xcat_r, xcat_l, xcat_d, Nat.zero_le, Nat.reduceAdd, Nat.reduceLeDiff, true_and, and_true, ykl_i, ykl_r, ykl_n, ykl_l]
  show G (d + 1) 189 5 [some (.ref 0), some (.int a0), none] [] τ Q ↔ _
  simp only [s_189_5, s_189_6]
theorem h_190 {a0 : Int32} {v : Int32} (ho : ∃ fs, xRd σ 0 = some (.inr (7, fs))) (hm : Ra d 103 [.ref 0, .int a0] σ (.inl (some (.int v))) τ) : Ra (d + 1) 190 [.ref 0, .int a0] σ (.inl (some (.int v))) τ := by
  intro Q
  obtain ⟨fs, ho⟩ := ho
  show G (d + 1) 190 0 [some (.ref 0), some (.int a0), none] [] σ Q ↔ _
  simp only [s_190_0, s_190_1, s_190_2, s_190_3, ho, hm, hgf_s, hsel_0, hsel_1, hsel_2, hsel_3, hsel_4, hsel_5, hsel_6, hsel_7, hsel_8, hset_0, hset_1, hset_2, hset_3, hset_4, hset_5, hset_6, hset_7, hset_8, hpf_s, hcl_s, hai_s, hpi_0, hpi_1, hln_0, hln_1, List.length_cons, List.length_nil, xwr_1, xwr_2, xnew_1, xnew_n, xnew_s, xnew_z, Nat.reduceLT, ite_true, and_self, hp_8_0, hp_8_1, hn_8_1, hp_8_2, hn_8_2, hp_9_0, hp_9_1, hp_9_2, hp_9_3, hp_9_4, hp_9_5, hn_9_5, hp_9_6, hn_9_6, hp_9_7, hn_9_7, hp_10_0, hp_10_1, hp_10_2, hn_10_2, hp_10_3, hn_10_3, hp_11_0, hp_12_0, hn_12_0, hp_12_1, hp_12_2, hp_12_3, hp_12_4, hp_12_5, hn_12_5, hp_12_6, hn_12_6, hp_12_7, hp_12_8, hp_13_0, hn_13_0, hp_13_1, hp_13_2, hp_13_3, hp_14_0, hn_14_0, hp_14_1, hp_14_2, hp_14_3, xdef_8, xdef_9, xdef_10, xdef_11, xdef_12, xdef_13, xdef_14, Gk_v, Gk_n, xcat_nil, xcat_i, xcat_r, xcat_l, xcat_d, Nat.zero_le, Nat.reduceAdd, Nat.reduceLeDiff, true_and, and_true, ykl_i, ykl_r, ykl_n, ykl_l]
theorem h_190_1 {a0 : Int32} (ho : ∃ fs, xRd σ 0 = some (.inr (7, fs))) (hm : Ra d 103 [.ref 0, .int a0] σ (.inr 1) τ) : Ra (d + 1) 190 [.ref 0, .int a0] σ (.inl (some (.int (-2000000097)))) τ := by
  intro Q
  obtain ⟨fs, ho⟩ := ho
  have hh : xhd 190 2 1 = some (5, 2) := by decide
  show G (d + 1) 190 0 [some (.ref 0), some (.int a0), none] [] σ Q ↔ _
  simp only [s_190_0, s_190_1, s_190_2, ho, hm, Gk_e, hh, hgf_s, hsel_0, hsel_1, hsel_2, hsel_3, hsel_4, hsel_5, hsel_6, hsel_7, hsel_8, hset_0, hset_1, hset_2, hset_3, hset_4, hset_5, hset_6, hset_7, hset_8, hpf_s, hcl_s, hai_s, hpi_0, hpi_1, hln_0, hln_1, List.length_cons, List.length_nil, xwr_1, xwr_2, xnew_1, xnew_n, xnew_s, xnew_z, Nat.reduceLT, ite_true, and_self, hp_8_0, hp_8_1, hn_8_1, hp_8_2, hn_8_2, hp_9_0, hp_9_1, hp_9_2, hp_9_3, hp_9_4, hp_9_5, hn_9_5, hp_9_6, hn_9_6, hp_9_7, hn_9_7, hp_10_0, hp_10_1, hp_10_2, hn_10_2, hp_10_3, hn_10_3, hp_11_0, hp_12_0, hn_12_0, hp_12_1, hp_12_2, hp_12_3, hp_12_4, hp_12_5, hn_12_5, hp_12_6, hn_12_6, hp_12_7, hp_12_8, hp_13_0, hn_13_0, hp_13_1, hp_13_2, hp_13_3, hp_14_0, hn_14_0, hp_14_1, hp_14_2, hp_14_3, xdef_8, xdef_9, xdef_10, xdef_11, xdef_12, xdef_13, xdef_14, Gk_v, Gk_n, xcat_nil, xcat_i, xcat_r, xcat_l, xcat_d, Nat.zero_le, Nat.reduceAdd, Nat.reduceLeDiff, true_and, and_true, ykl_i, ykl_r, ykl_n, ykl_l]
  show G (d + 1) 190 5 [some (.ref 0), some (.int a0), none] [] τ Q ↔ _
  simp only [s_190_5, s_190_6]
theorem h_191 {a0 : Int32} {v : Int32} (ho : ∃ fs, xRd σ 0 = some (.inr (7, fs))) (hm : Ra d 104 [.ref 0, .int a0] σ (.inl (some (.int v))) τ) : Ra (d + 1) 191 [.ref 0, .int a0] σ (.inl (some (.int v))) τ := by
  intro Q
  obtain ⟨fs, ho⟩ := ho
  show G (d + 1) 191 0 [some (.ref 0), some (.int a0), none] [] σ Q ↔ _
  simp only [s_191_0, s_191_1, s_191_2, s_191_3, ho, hm, hgf_s, hsel_0, hsel_1, hsel_2, hsel_3, hsel_4, hsel_5, hsel_6, hsel_7, hsel_8, hset_0, hset_1, hset_2, hset_3, hset_4, hset_5, hset_6, hset_7, hset_8, hpf_s, hcl_s, hai_s, hpi_0, hpi_1, hln_0, hln_1, List.length_cons, List.length_nil, xwr_1, xwr_2, xnew_1, xnew_n, xnew_s, xnew_z, Nat.reduceLT, ite_true, and_self, hp_8_0, hp_8_1, hn_8_1, hp_8_2, hn_8_2, hp_9_0, hp_9_1, hp_9_2, hp_9_3, hp_9_4, hp_9_5, hn_9_5, hp_9_6, hn_9_6, hp_9_7, hn_9_7, hp_10_0, hp_10_1, hp_10_2, hn_10_2, hp_10_3, hn_10_3, hp_11_0, hp_12_0, hn_12_0, hp_12_1, hp_12_2, hp_12_3, hp_12_4, hp_12_5, hn_12_5, hp_12_6, hn_12_6, hp_12_7, hp_12_8, hp_13_0, hn_13_0, hp_13_1, hp_13_2, hp_13_3, hp_14_0, hn_14_0, hp_14_1, hp_14_2, hp_14_3, xdef_8, xdef_9, xdef_10, xdef_11, xdef_12, xdef_13, xdef_14, Gk_v, Gk_n, xcat_nil, xcat_i, xcat_r, xcat_l, xcat_d, Nat.zero_le, Nat.reduceAdd, Nat.reduceLeDiff, true_and, and_true, ykl_i, ykl_r, ykl_n, ykl_l]
theorem h_191_0 {a0 : Int32} (ho : ∃ fs, xRd σ 0 = some (.inr (7, fs))) (hm : Ra d 104 [.ref 0, .int a0] σ (.inr 0) τ) : Ra (d + 1) 191 [.ref 0, .int a0] σ (.inl (some (.int (-2000000098)))) τ := by
  intro Q
  obtain ⟨fs, ho⟩ := ho
  have hh : xhd 191 2 0 = some (5, 2) := by decide
  show G (d + 1) 191 0 [some (.ref 0), some (.int a0), none] [] σ Q ↔ _
  simp only [s_191_0, s_191_1, s_191_2, ho, hm, Gk_e, hh, hgf_s, hsel_0, hsel_1, hsel_2, hsel_3, hsel_4, hsel_5, hsel_6, hsel_7, hsel_8, hset_0, hset_1, hset_2, hset_3, hset_4, hset_5, hset_6, hset_7, hset_8, hpf_s, hcl_s, hai_s, hpi_0, hpi_1, hln_0, hln_1, List.length_cons, List.length_nil, xwr_1, xwr_2, xnew_1, xnew_n, xnew_s, xnew_z, Nat.reduceLT, ite_true, and_self, hp_8_0, hp_8_1, hn_8_1, hp_8_2, hn_8_2, hp_9_0, hp_9_1, hp_9_2, hp_9_3, hp_9_4, hp_9_5, hn_9_5, hp_9_6, hn_9_6, hp_9_7, hn_9_7, hp_10_0, hp_10_1, hp_10_2, hn_10_2, hp_10_3, hn_10_3, hp_11_0, hp_12_0, hn_12_0, hp_12_1, hp_12_2, hp_12_3, hp_12_4, hp_12_5, hn_12_5, hp_12_6, hn_12_6, hp_12_7, hp_12_8, hp_13_0, hn_13_0, hp_13_1, hp_13_2, hp_13_3, hp_14_0, hn_14_0, hp_14_1, hp_14_2, hp_14_3, xdef_8, xdef_9, xdef_10, xdef_11, xdef_12, xdef_13, xdef_14, Gk_v, Gk_n, xcat_nil, xcat_i, xcat_r, xcat_l, xcat_d, Nat.zero_le, Nat.reduceAdd, Nat.reduceLeDiff, true_and, and_true, ykl_i, ykl_r, ykl_n, ykl_l]
  show G (d + 1) 191 5 [some (.ref 0), some (.int a0), none] [] τ Q ↔ _
  simp only [s_191_5, s_191_6]
theorem h_192 {a0 : Int32} {v : Int64} (ho : ∃ fs, xRd σ 0 = some (.inr (7, fs))) (hm : Ra d 105 [.ref 0, .int a0] σ (.inl (some (.long v))) τ) : Ra (d + 1) 192 [.ref 0, .int a0] σ (.inl (some (.long v))) τ := by
  intro Q
  obtain ⟨fs, ho⟩ := ho
  show G (d + 1) 192 0 [some (.ref 0), some (.int a0), none] [] σ Q ↔ _
  simp only [s_192_0, s_192_1, s_192_2, s_192_3, ho, hm, hgf_s, hsel_0, hsel_1, hsel_2, hsel_3, hsel_4, hsel_5, hsel_6, hsel_7, hsel_8, hset_0, hset_1, hset_2, hset_3, hset_4, hset_5, hset_6, hset_7, hset_8, hpf_s, hcl_s, hai_s, hpi_0, hpi_1, hln_0, hln_1, List.length_cons, List.length_nil, xwr_1, xwr_2, xnew_1, xnew_n, xnew_s, xnew_z, Nat.reduceLT, ite_true, and_self, hp_8_0, hp_8_1, hn_8_1, hp_8_2, hn_8_2, hp_9_0, hp_9_1, hp_9_2, hp_9_3, hp_9_4, hp_9_5, hn_9_5, hp_9_6, hn_9_6, hp_9_7, hn_9_7, hp_10_0, hp_10_1, hp_10_2, hn_10_2, hp_10_3, hn_10_3, hp_11_0, hp_12_0, hn_12_0, hp_12_1, hp_12_2, hp_12_3, hp_12_4, hp_12_5, hn_12_5, hp_12_6, hn_12_6, hp_12_7, hp_12_8, hp_13_0, hn_13_0, hp_13_1, hp_13_2, hp_13_3, hp_14_0, hn_14_0, hp_14_1, hp_14_2, hp_14_3, xdef_8, xdef_9, xdef_10, xdef_11, xdef_12, xdef_13, xdef_14, Gk_v, Gk_n, xcat_nil, xcat_i, xcat_r, xcat_l, xcat_d, Nat.zero_le, Nat.reduceAdd, Nat.reduceLeDiff, true_and, and_true, ykl_i, ykl_r, ykl_n, ykl_l]
theorem h_192_0 {a0 : Int32} (ho : ∃ fs, xRd σ 0 = some (.inr (7, fs))) (hm : Ra d 105 [.ref 0, .int a0] σ (.inr 0) τ) : Ra (d + 1) 192 [.ref 0, .int a0] σ (.inl (some (.long (-2000000098)))) τ := by
  intro Q
  obtain ⟨fs, ho⟩ := ho
  have hh : xhd 192 2 0 = some (5, 2) := by decide
  show G (d + 1) 192 0 [some (.ref 0), some (.int a0), none] [] σ Q ↔ _
  simp only [s_192_0, s_192_1, s_192_2, ho, hm, Gk_e, hh, hgf_s, hsel_0, hsel_1, hsel_2, hsel_3, hsel_4, hsel_5, hsel_6, hsel_7, hsel_8, hset_0, hset_1, hset_2, hset_3, hset_4, hset_5, hset_6, hset_7, hset_8, hpf_s, hcl_s, hai_s, hpi_0, hpi_1, hln_0, hln_1, List.length_cons, List.length_nil, xwr_1, xwr_2, xnew_1, xnew_n, xnew_s, xnew_z, Nat.reduceLT, ite_true, and_self, hp_8_0, hp_8_1, hn_8_1, hp_8_2, hn_8_2, hp_9_0, hp_9_1, hp_9_2, hp_9_3, hp_9_4, hp_9_5, hn_9_5, hp_9_6, hn_9_6, hp_9_7, hn_9_7, hp_10_0, hp_10_1, hp_10_2, hn_10_2, hp_10_3, hn_10_3, hp_11_0, hp_12_0, hn_12_0, hp_12_1, hp_12_2, hp_12_3, hp_12_4, hp_12_5, hn_12_5, hp_12_6, hn_12_6, hp_12_7, hp_12_8, hp_13_0, hn_13_0, hp_13_1, hp_13_2, hp_13_3, hp_14_0, hn_14_0, hp_14_1, hp_14_2, hp_14_3, xdef_8, xdef_9, xdef_10, xdef_11, xdef_12, xdef_13, xdef_14, Gk_v, Gk_n, xcat_nil, xcat_i, xcat_r, xcat_l, xcat_d, Nat.zero_le, Nat.reduceAdd, Nat.reduceLeDiff, true_and, and_true, ykl_i, ykl_r, ykl_n, ykl_l]
  show G (d + 1) 192 5 [some (.ref 0), some (.int a0), none] [] τ Q ↔ _
  simp only [s_192_5, s_192_6]
theorem h_193 {a0 a1 a2 a3 a4 : Int32} {v : Int32} (ho : ∃ fs, xRd σ 0 = some (.inr (7, fs))) (hm : Ra d 108 [.ref 0, .int a0, .int a1, .int a2, .int a3, .int a4] σ (.inl (some (.int v))) τ) : Ra (d + 1) 193 [.ref 0, .int a0, .int a1, .int a2, .int a3, .int a4] σ (.inl (some (.int v))) τ := by
  intro Q
  obtain ⟨fs, ho⟩ := ho
  show G (d + 1) 193 0 [some (.ref 0), some (.int a0), some (.int a1), some (.int a2), some (.int a3), some (.int a4), none] [] σ Q ↔ _
  simp only [s_193_0, s_193_1, s_193_2, s_193_3, s_193_4, s_193_5, s_193_6, s_193_7, ho, hm, hgf_s, hsel_0, hsel_1, hsel_2, hsel_3, hsel_4, hsel_5, hsel_6, hsel_7, hsel_8, hset_0, hset_1, hset_2, hset_3, hset_4, hset_5, hset_6, hset_7, hset_8, hpf_s, hcl_s, hai_s, hpi_0, hpi_1, hln_0, hln_1, List.length_cons, List.length_nil, xwr_1, xwr_2, xnew_1, xnew_n, xnew_s, xnew_z, Nat.reduceLT, ite_true, and_self, hp_8_0, hp_8_1, hn_8_1, hp_8_2, hn_8_2, hp_9_0, hp_9_1, hp_9_2, hp_9_3, hp_9_4, hp_9_5, hn_9_5, hp_9_6, hn_9_6, hp_9_7, hn_9_7, hp_10_0, hp_10_1, hp_10_2, hn_10_2, hp_10_3, hn_10_3, hp_11_0, hp_12_0, hn_12_0, hp_12_1, hp_12_2, hp_12_3, hp_12_4, hp_12_5, hn_12_5, hp_12_6, hn_12_6, hp_12_7, hp_12_8, hp_13_0, hn_13_0, hp_13_1, hp_13_2, hp_13_3, hp_14_0, hn_14_0, hp_14_1, hp_14_2, hp_14_3, xdef_8, xdef_9, xdef_10, xdef_11, xdef_12, xdef_13, xdef_14, Gk_v, Gk_n, xcat_nil, xcat_i, xcat_r, xcat_l, xcat_d, Nat.zero_le, Nat.reduceAdd, Nat.reduceLeDiff, true_and, and_true, ykl_i, ykl_r, ykl_n, ykl_l]
theorem h_193_1 {a0 a1 a2 a3 a4 : Int32} (ho : ∃ fs, xRd σ 0 = some (.inr (7, fs))) (hm : Ra d 108 [.ref 0, .int a0, .int a1, .int a2, .int a3, .int a4] σ (.inr 1) τ) : Ra (d + 1) 193 [.ref 0, .int a0, .int a1, .int a2, .int a3, .int a4] σ (.inl (some (.int (-2000000097)))) τ := by
  intro Q
  obtain ⟨fs, ho⟩ := ho
  have hh : xhd 193 6 1 = some (9, 6) := by decide
  show G (d + 1) 193 0 [some (.ref 0), some (.int a0), some (.int a1), some (.int a2), some (.int a3), some (.int a4), none] [] σ Q ↔ _
  simp only [s_193_0, s_193_1, s_193_2, s_193_3, s_193_4, s_193_5, s_193_6, ho, hm, Gk_e, hh, hgf_s, hsel_0, hsel_1, hsel_2, hsel_3, hsel_4, hsel_5, hsel_6, hsel_7, hsel_8, hset_0, hset_1, hset_2, hset_3, hset_4, hset_5, hset_6, hset_7, hset_8, hpf_s, hcl_s, hai_s, hpi_0, hpi_1, hln_0, hln_1, List.length_cons, List.length_nil, xwr_1, xwr_2, xnew_1, xnew_n, xnew_s, xnew_z, Nat.reduceLT, ite_true, and_self, hp_8_0, hp_8_1, hn_8_1, hp_8_2, hn_8_2, hp_9_0, hp_9_1, hp_9_2, hp_9_3, hp_9_4, hp_9_5, hn_9_5, hp_9_6, hn_9_6, hp_9_7, hn_9_7, hp_10_0, hp_10_1, hp_10_2, hn_10_2, hp_10_3, hn_10_3, hp_11_0, hp_12_0, hn_12_0, hp_12_1, hp_12_2, hp_12_3, hp_12_4, hp_12_5, hn_12_5, hp_12_6, hn_12_6, hp_12_7, hp_12_8, hp_13_0, hn_13_0, hp_13_1, hp_13_2, hp_13_3, hp_14_0, hn_14_0, hp_14_1, hp_14_2, hp_14_3, xdef_8, xdef_9, xdef_10, xdef_11, xdef_12, xdef_13, xdef_14, Gk_v, Gk_n, xcat_nil, xcat_i, xcat_r, xcat_l, xcat_d, Nat.zero_le, Nat.reduceAdd, Nat.reduceLeDiff, true_and, and_true, ykl_i, ykl_r, ykl_n, ykl_l]
  show G (d + 1) 193 9 [some (.ref 0), some (.int a0), some (.int a1), some (.int a2), some (.int a3), some (.int a4), none] [] τ Q ↔ _
  simp only [s_193_9, s_193_10]
theorem h_193_0 {a0 a1 a2 a3 a4 : Int32} (ho : ∃ fs, xRd σ 0 = some (.inr (7, fs))) (hm : Ra d 108 [.ref 0, .int a0, .int a1, .int a2, .int a3, .int a4] σ (.inr 0) τ) : Ra (d + 1) 193 [.ref 0, .int a0, .int a1, .int a2, .int a3, .int a4] σ (.inl (some (.int (-2000000098)))) τ := by
  intro Q
  obtain ⟨fs, ho⟩ := ho
  have hh : xhd 193 6 0 = some (12, 6) := by decide
  show G (d + 1) 193 0 [some (.ref 0), some (.int a0), some (.int a1), some (.int a2), some (.int a3), some (.int a4), none] [] σ Q ↔ _
  simp only [s_193_0, s_193_1, s_193_2, s_193_3, s_193_4, s_193_5, s_193_6, ho, hm, Gk_e, hh, hgf_s, hsel_0, hsel_1, hsel_2, hsel_3, hsel_4, hsel_5, hsel_6, hsel_7, hsel_8, hset_0, hset_1, hset_2, hset_3, hset_4, hset_5, hset_6, hset_7, hset_8, hpf_s, hcl_s, hai_s, hpi_0, hpi_1, hln_0, hln_1, List.length_cons, List.length_nil, xwr_1, xwr_2, xnew_1, xnew_n, xnew_s, xnew_z, Nat.reduceLT, ite_true, and_self, hp_8_0, hp_8_1, hn_8_1, hp_8_2, hn_8_2, hp_9_0, hp_9_1, hp_9_2, hp_9_3, hp_9_4, hp_9_5, hn_9_5, hp_9_6, hn_9_6, hp_9_7, hn_9_7, hp_10_0, hp_10_1, hp_10_2, hn_10_2, hp_10_3, hn_10_3, hp_11_0, hp_12_0, hn_12_0, hp_12_1, hp_12_2, hp_12_3, hp_12_4, hp_12_5, hn_12_5, hp_12_6, hn_12_6, hp_12_7, hp_12_8, hp_13_0, hn_13_0, hp_13_1, hp_13_2, hp_13_3, hp_14_0, hn_14_0, hp_14_1, hp_14_2, hp_14_3, xdef_8, xdef_9, xdef_10, xdef_11, xdef_12, xdef_13, xdef_14, Gk_v, Gk_n, xcat_nil, xcat_i, xcat_r, xcat_l, xcat_d, Nat.zero_le, Nat.reduceAdd, Nat.reduceLeDiff, true_and, and_true, ykl_i, ykl_r, ykl_n, ykl_l]
  show G (d + 1) 193 12 [some (.ref 0), some (.int a0), some (.int a1), some (.int a2), some (.int a3), some (.int a4), none] [] τ Q ↔ _
  simp only [s_193_12, s_193_13]
theorem h_194 {a0 : Int32} {v : Int32} (ho : ∃ fs, xRd σ 0 = some (.inr (7, fs))) (hm : Ra d 109 [.ref 0, .int a0] σ (.inl (some (.int v))) τ) : Ra (d + 1) 194 [.ref 0, .int a0] σ (.inl (some (.int v))) τ := by
  intro Q
  obtain ⟨fs, ho⟩ := ho
  show G (d + 1) 194 0 [some (.ref 0), some (.int a0), none] [] σ Q ↔ _
  simp only [s_194_0, s_194_1, s_194_2, s_194_3, ho, hm, hgf_s, hsel_0, hsel_1, hsel_2, hsel_3, hsel_4, hsel_5, hsel_6, hsel_7, hsel_8, hset_0, hset_1, hset_2, hset_3, hset_4, hset_5, hset_6, hset_7, hset_8, hpf_s, hcl_s, hai_s, hpi_0, hpi_1, hln_0, hln_1, List.length_cons, List.length_nil, xwr_1, xwr_2, xnew_1, xnew_n, xnew_s, xnew_z, Nat.reduceLT, ite_true, and_self, hp_8_0, hp_8_1, hn_8_1, hp_8_2, hn_8_2, hp_9_0, hp_9_1, hp_9_2, hp_9_3, hp_9_4, hp_9_5, hn_9_5, hp_9_6, hn_9_6, hp_9_7, hn_9_7, hp_10_0, hp_10_1, hp_10_2, hn_10_2, hp_10_3, hn_10_3, hp_11_0, hp_12_0, hn_12_0, hp_12_1, hp_12_2, hp_12_3, hp_12_4, hp_12_5, hn_12_5, hp_12_6, hn_12_6, hp_12_7, hp_12_8, hp_13_0, hn_13_0, hp_13_1, hp_13_2, hp_13_3, hp_14_0, hn_14_0, hp_14_1, hp_14_2, hp_14_3, xdef_8, xdef_9, xdef_10, xdef_11, xdef_12, xdef_13, xdef_14, Gk_v, Gk_n, xcat_nil, xcat_i, xcat_r, xcat_l, xcat_d, Nat.zero_le, Nat.reduceAdd, Nat.reduceLeDiff, true_and, and_true, ykl_i, ykl_r, ykl_n, ykl_l]
theorem h_194_0 {a0 : Int32} (ho : ∃ fs, xRd σ 0 = some (.inr (7, fs))) (hm : Ra d 109 [.ref 0, .int a0] σ (.inr 0) τ) : Ra (d + 1) 194 [.ref 0, .int a0] σ (.inl (some (.int (-2000000098)))) τ := by
  intro Q
  obtain ⟨fs, ho⟩ := ho
  have hh : xhd 194 2 0 = some (5, 2) := by decide
  show G (d + 1) 194 0 [some (.ref 0), some (.int a0), none] [] σ Q ↔ _
  simp only [s_194_0, s_194_1, s_194_2, ho, hm, Gk_e, hh, hgf_s, hsel_0, hsel_1, hsel_2, hsel_3, hsel_4, hsel_5, hsel_6, hsel_7, hsel_8, hset_0, hset_1, hset_2, hset_3, hset_4, hset_5, hset_6, hset_7, hset_8, hpf_s, hcl_s, hai_s, hpi_0, hpi_1, hln_0, hln_1, List.length_cons, List.length_nil, xwr_1, xwr_2, xnew_1, xnew_n, xnew_s, xnew_z, Nat.reduceLT, ite_true, and_self, hp_8_0, hp_8_1, hn_8_1, hp_8_2, hn_8_2, hp_9_0, hp_9_1, hp_9_2, hp_9_3, hp_9_4, hp_9_5, hn_9_5, hp_9_6, hn_9_6, hp_9_7, hn_9_7, hp_10_0, hp_10_1, hp_10_2, hn_10_2, hp_10_3, hn_10_3, hp_11_0, hp_12_0, hn_12_0, hp_12_1, hp_12_2, hp_12_3, hp_12_4, hp_12_5, hn_12_5, hp_12_6, hn_12_6, hp_12_7, hp_12_8, hp_13_0, hn_13_0, hp_13_1, hp_13_2, hp_13_3, hp_14_0, hn_14_0, hp_14_1, hp_14_2, hp_14_3, xdef_8, xdef_9, xdef_10, xdef_11, xdef_12, xdef_13, xdef_14, Gk_v, Gk_n, xcat_nil, xcat_i, xcat_r, xcat_l, xcat_d, Nat.zero_le, Nat.reduceAdd, Nat.reduceLeDiff, true_and, and_true, ykl_i, ykl_r, ykl_n, ykl_l]
  show G (d + 1) 194 5 [some (.ref 0), some (.int a0), none] [] τ Q ↔ _
  simp only [s_194_5, s_194_6]
theorem h_195 {a0 : Int32} {v : Int32} (ho : ∃ fs, xRd σ 0 = some (.inr (7, fs))) (hm : Ra d 110 [.ref 0, .int a0] σ (.inl (some (.int v))) τ) : Ra (d + 1) 195 [.ref 0, .int a0] σ (.inl (some (.int v))) τ := by
  intro Q
  obtain ⟨fs, ho⟩ := ho
  show G (d + 1) 195 0 [some (.ref 0), some (.int a0), none] [] σ Q ↔ _
  simp only [s_195_0, s_195_1, s_195_2, s_195_3, ho, hm, hgf_s, hsel_0, hsel_1, hsel_2, hsel_3, hsel_4, hsel_5, hsel_6, hsel_7, hsel_8, hset_0, hset_1, hset_2, hset_3, hset_4, hset_5, hset_6, hset_7, hset_8, hpf_s, hcl_s, hai_s, hpi_0, hpi_1, hln_0, hln_1, List.length_cons, List.length_nil, xwr_1, xwr_2, xnew_1, xnew_n, xnew_s, xnew_z, Nat.reduceLT, ite_true, and_self, hp_8_0, hp_8_1, hn_8_1, hp_8_2, hn_8_2, hp_9_0, hp_9_1, hp_9_2, hp_9_3, hp_9_4, hp_9_5, hn_9_5, hp_9_6, hn_9_6, hp_9_7, hn_9_7, hp_10_0, hp_10_1, hp_10_2, hn_10_2, hp_10_3, hn_10_3, hp_11_0, hp_12_0, hn_12_0, hp_12_1, hp_12_2, hp_12_3, hp_12_4, hp_12_5, hn_12_5, hp_12_6, hn_12_6, hp_12_7, hp_12_8, hp_13_0, hn_13_0, hp_13_1, hp_13_2, hp_13_3, hp_14_0, hn_14_0, hp_14_1, hp_14_2, hp_14_3, xdef_8, xdef_9, xdef_10, xdef_11, xdef_12, xdef_13, xdef_14, Gk_v, Gk_n, xcat_nil, xcat_i, xcat_r, xcat_l, xcat_d, Nat.zero_le, Nat.reduceAdd, Nat.reduceLeDiff, true_and, and_true, ykl_i, ykl_r, ykl_n, ykl_l]
theorem h_195_0 {a0 : Int32} (ho : ∃ fs, xRd σ 0 = some (.inr (7, fs))) (hm : Ra d 110 [.ref 0, .int a0] σ (.inr 0) τ) : Ra (d + 1) 195 [.ref 0, .int a0] σ (.inl (some (.int (-2000000098)))) τ := by
  intro Q
  obtain ⟨fs, ho⟩ := ho
  have hh : xhd 195 2 0 = some (5, 2) := by decide
  show G (d + 1) 195 0 [some (.ref 0), some (.int a0), none] [] σ Q ↔ _
  simp only [s_195_0, s_195_1, s_195_2, ho, hm, Gk_e, hh, hgf_s, hsel_0, hsel_1, hsel_2, hsel_3, hsel_4, hsel_5, hsel_6, hsel_7, hsel_8, hset_0, hset_1, hset_2, hset_3, hset_4, hset_5, hset_6, hset_7, hset_8, hpf_s, hcl_s, hai_s, hpi_0, hpi_1, hln_0, hln_1, List.length_cons, List.length_nil, xwr_1, xwr_2, xnew_1, xnew_n, xnew_s, xnew_z, Nat.reduceLT, ite_true, and_self, hp_8_0, hp_8_1, hn_8_1, hp_8_2, hn_8_2, hp_9_0, hp_9_1, hp_9_2, hp_9_3, hp_9_4, hp_9_5, hn_9_5, hp_9_6, hn_9_6, hp_9_7, hn_9_7, hp_10_0, hp_10_1, hp_10_2, hn_10_2, hp_10_3, hn_10_3, hp_11_0, hp_12_0, hn_12_0, hp_12_1, hp_12_2, hp_12_3, hp_12_4, hp_12_5, hn_12_5, hp_12_6, hn_12_6, hp_12_7, hp_12_8, hp_13_0, hn_13_0, hp_13_1, hp_13_2, hp_13_3, hp_14_0, hn_14_0, hp_14_1, hp_14_2, hp_14_3, xdef_8, xdef_9, xdef_10, xdef_11, xdef_12, xdef_13, xdef_14, Gk_v, Gk_n, xcat_nil, xcat_i, xcat_r, xcat_l, xcat_d, Nat.zero_le, Nat.reduceAdd, Nat.reduceLeDiff, true_and, and_true, ykl_i, ykl_r, ykl_n, ykl_l]
  show G (d + 1) 195 5 [some (.ref 0), some (.int a0), none] [] τ Q ↔ _
  simp only [s_195_5, s_195_6]
theorem h_196 {a0 : Int32} {v : Int32} (ho : ∃ fs, xRd σ 0 = some (.inr (7, fs))) (hm : Ra d 111 [.ref 0, .int a0] σ (.inl (some (.int v))) τ) : Ra (d + 1) 196 [.ref 0, .int a0] σ (.inl (some (.int v))) τ := by
  intro Q
  obtain ⟨fs, ho⟩ := ho
  show G (d + 1) 196 0 [some (.ref 0), some (.int a0), none] [] σ Q ↔ _
  simp only [s_196_0, s_196_1, s_196_2, s_196_3, ho, hm, hgf_s, hsel_0, hsel_1, hsel_2, hsel_3, hsel_4, hsel_5, hsel_6, hsel_7, hsel_8, hset_0, hset_1, hset_2, hset_3, hset_4, hset_5, hset_6, hset_7, hset_8, hpf_s, hcl_s, hai_s, hpi_0, hpi_1, hln_0, hln_1, List.length_cons, List.length_nil, xwr_1, xwr_2, xnew_1, xnew_n, xnew_s, xnew_z, Nat.reduceLT, ite_true, and_self, hp_8_0, hp_8_1, hn_8_1, hp_8_2, hn_8_2, hp_9_0, hp_9_1, hp_9_2, hp_9_3, hp_9_4, hp_9_5, hn_9_5, hp_9_6, hn_9_6, hp_9_7, hn_9_7, hp_10_0, hp_10_1, hp_10_2, hn_10_2, hp_10_3, hn_10_3, hp_11_0, hp_12_0, hn_12_0, hp_12_1, hp_12_2, hp_12_3, hp_12_4, hp_12_5, hn_12_5, hp_12_6, hn_12_6, hp_12_7, hp_12_8, hp_13_0, hn_13_0, hp_13_1, hp_13_2, hp_13_3, hp_14_0, hn_14_0, hp_14_1, hp_14_2, hp_14_3, xdef_8, xdef_9, xdef_10, xdef_11, xdef_12, xdef_13, xdef_14, Gk_v, Gk_n, xcat_nil, xcat_i, xcat_r, xcat_l, xcat_d, Nat.zero_le, Nat.reduceAdd, Nat.reduceLeDiff, true_and, and_true, ykl_i, ykl_r, ykl_n, ykl_l]
theorem h_196_0 {a0 : Int32} (ho : ∃ fs, xRd σ 0 = some (.inr (7, fs))) (hm : Ra d 111 [.ref 0, .int a0] σ (.inr 0) τ) : Ra (d + 1) 196 [.ref 0, .int a0] σ (.inl (some (.int (-2000000098)))) τ := by
  intro Q
  obtain ⟨fs, ho⟩ := ho
  have hh : xhd 196 2 0 = some (5, 2) := by decide
  show G (d + 1) 196 0 [some (.ref 0), some (.int a0), none] [] σ Q ↔ _
  simp only [s_196_0, s_196_1, s_196_2, ho, hm, Gk_e, hh, hgf_s, hsel_0, hsel_1, hsel_2, hsel_3, hsel_4, hsel_5, hsel_6, hsel_7, hsel_8, hset_0, hset_1, hset_2, hset_3, hset_4, hset_5, hset_6, hset_7, hset_8, hpf_s, hcl_s, hai_s, hpi_0, hpi_1, hln_0, hln_1, List.length_cons, List.length_nil, xwr_1, xwr_2, xnew_1, xnew_n, xnew_s, xnew_z, Nat.reduceLT, ite_true, and_self, hp_8_0, hp_8_1, hn_8_1, hp_8_2, hn_8_2, hp_9_0, hp_9_1, hp_9_2, hp_9_3, hp_9_4, hp_9_5, hn_9_5, hp_9_6, hn_9_6, hp_9_7, hn_9_7, hp_10_0, hp_10_1, hp_10_2, hn_10_2, hp_10_3, hn_10_3, hp_11_0, hp_12_0, hn_12_0, hp_12_1, hp_12_2, hp_12_3, hp_12_4, hp_12_5, hn_12_5, hp_12_6, hn_12_6, hp_12_7, hp_12_8, hp_13_0, hn_13_0, hp_13_1, hp_13_2, hp_13_3, hp_14_0, hn_14_0, hp_14_1, hp_14_2, hp_14_3, xdef_8, xdef_9, xdef_10, xdef_11, xdef_12, xdef_13, xdef_14, Gk_v, Gk_n, xcat_nil, xcat_i, xcat_r, xcat_l, xcat_d, Nat.zero_le, Nat.reduceAdd, Nat.reduceLeDiff, true_and, and_true, ykl_i, ykl_r, ykl_n, ykl_l]
  show G (d + 1) 196 5 [some (.ref 0), some (.int a0), none] [] τ Q ↔ _
  simp only [s_196_5, s_196_6]
theorem h_197 {a0 a1 : Int32} {b : Bool} (ho : ∃ fs, xRd σ 0 = some (.inr (7, fs))) (hm : Ra d 112 [.ref 0, .int a0, .int a1] σ (.inl (some (.int (yb b)))) τ) : Ra (d + 1) 197 [.ref 0, .int a0, .int a1] σ (.inl (some (.int (yb b)))) τ := by
  intro Q
  obtain ⟨fs, ho⟩ := ho
  show G (d + 1) 197 0 [some (.ref 0), some (.int a0), some (.int a1), none] [] σ Q ↔ _
  cases b
  · simp only [s_197_0, s_197_1, s_197_2, s_197_3, s_197_4, s_197_5, s_197_6, s_197_7, s_197_8, ho, hm, show yb false = 0 from rfl, if_true, hgf_s, hsel_0, hsel_1, hsel_2, hsel_3, hsel_4, hsel_5, hsel_6, hsel_7, hsel_8, hset_0, hset_1, hset_2, hset_3, hset_4, hset_5, hset_6, hset_7, hset_8, hpf_s, hcl_s, hai_s, hpi_0, hpi_1, hln_0, hln_1, List.length_cons, List.length_nil, xwr_1, xwr_2, xnew_1, xnew_n, xnew_s, xnew_z, Nat.reduceLT, ite_true, and_self, hp_8_0, hp_8_1, hn_8_1, hp_8_2, hn_8_2, hp_9_0, hp_9_1, hp_9_2, hp_9_3, hp_9_4, hp_9_5, hn_9_5, hp_9_6, hn_9_6, hp_9_7, hn_9_7, hp_10_0, hp_10_1, hp_10_2, hn_10_2, hp_10_3, hn_10_3, hp_11_0, hp_12_0, hn_12_0, hp_12_1, hp_12_2, hp_12_3, hp_12_4, hp_12_5, hn_12_5, hp_12_6, hn_12_6, hp_12_7, hp_12_8, hp_13_0, hn_13_0, hp_13_1, hp_13_2, hp_13_3, hp_14_0, hn_14_0, hp_14_1, hp_14_2, hp_14_3, xdef_8, xdef_9, xdef_10, xdef_11, xdef_12, xdef_13, xdef_14, Gk_v, Gk_n, xcat_nil, xcat_i, xcat_r, xcat_l, xcat_d, Nat.zero_le, Nat.reduceAdd, Nat.reduceLeDiff, true_and, and_true, ykl_i, ykl_r, ykl_n, ykl_l]
  · simp only [s_197_0, s_197_1, s_197_2, s_197_3, s_197_4, s_197_5, s_197_6, s_197_7, s_197_8, ho, hm, show yb true = 1 from rfl, show ¬ (1 : Int32) = 0 from by decide, if_false, hgf_s, hsel_0, hsel_1, hsel_2, hsel_3, hsel_4, hsel_5, hsel_6, hsel_7, hsel_8, hset_0, hset_1, hset_2, hset_3, hset_4, hset_5, hset_6, hset_7, hset_8, hpf_s, hcl_s, hai_s, hpi_0, hpi_1, hln_0, hln_1, List.length_cons, List.length_nil, xwr_1, xwr_2, xnew_1, xnew_n, xnew_s, xnew_z, Nat.reduceLT, ite_true, and_self, hp_8_0, hp_8_1, hn_8_1, hp_8_2, hn_8_2, hp_9_0, hp_9_1, hp_9_2, hp_9_3, hp_9_4, hp_9_5, hn_9_5, hp_9_6, hn_9_6, hp_9_7, hn_9_7, hp_10_0, hp_10_1, hp_10_2, hn_10_2, hp_10_3, hn_10_3, hp_11_0, hp_12_0, hn_12_0, hp_12_1, hp_12_2, hp_12_3, hp_12_4, hp_12_5, hn_12_5, hp_12_6, hn_12_6, hp_12_7, hp_12_8, hp_13_0, hn_13_0, hp_13_1, hp_13_2, hp_13_3, hp_14_0, hn_14_0, hp_14_1, hp_14_2, hp_14_3, xdef_8, xdef_9, xdef_10, xdef_11, xdef_12, xdef_13, xdef_14, Gk_v, Gk_n, xcat_nil, xcat_i, xcat_r, xcat_l, xcat_d, Nat.zero_le, Nat.reduceAdd, Nat.reduceLeDiff, true_and, and_true, ykl_i, ykl_r, ykl_n, ykl_l]
theorem h_197_1 {a0 a1 : Int32} (ho : ∃ fs, xRd σ 0 = some (.inr (7, fs))) (hm : Ra d 112 [.ref 0, .int a0, .int a1] σ (.inr 1) τ) : Ra (d + 1) 197 [.ref 0, .int a0, .int a1] σ (.inl (some (.int (-2000000097)))) τ := by
  intro Q
  obtain ⟨fs, ho⟩ := ho
  have hh : xhd 197 3 1 = some (10, 3) := by decide
  show G (d + 1) 197 0 [some (.ref 0), some (.int a0), some (.int a1), none] [] σ Q ↔ _
  simp only [s_197_0, s_197_1, s_197_2, s_197_3, ho, hm, Gk_e, hh, hgf_s, hsel_0, hsel_1, hsel_2, hsel_3, hsel_4, hsel_5, hsel_6, hsel_7, hsel_8, hset_0, hset_1, hset_2, hset_3, hset_4, hset_5, hset_6, hset_7, hset_8, hpf_s, hcl_s, hai_s, hpi_0, hpi_1, hln_0, hln_1, List.length_cons, List.length_nil, xwr_1, xwr_2, xnew_1, xnew_n, xnew_s, xnew_z, Nat.reduceLT, ite_true, and_self, hp_8_0, hp_8_1, hn_8_1, hp_8_2, hn_8_2, hp_9_0, hp_9_1, hp_9_2, hp_9_3, hp_9_4, hp_9_5, hn_9_5, hp_9_6, hn_9_6, hp_9_7, hn_9_7, hp_10_0, hp_10_1, hp_10_2, hn_10_2, hp_10_3, hn_10_3, hp_11_0, hp_12_0, hn_12_0, hp_12_1, hp_12_2, hp_12_3, hp_12_4, hp_12_5, hn_12_5, hp_12_6, hn_12_6, hp_12_7, hp_12_8, hp_13_0, hn_13_0, hp_13_1, hp_13_2, hp_13_3, hp_14_0, hn_14_0, hp_14_1, hp_14_2, hp_14_3, xdef_8, xdef_9, xdef_10, xdef_11, xdef_12, xdef_13, xdef_14, Gk_v, Gk_n, xcat_nil, xcat_i, xcat_r, xcat_l, xcat_d, Nat.zero_le, Nat.reduceAdd, Nat.reduceLeDiff, true_and, and_true, ykl_i, ykl_r, ykl_n, ykl_l]
  show G (d + 1) 197 10 [some (.ref 0), some (.int a0), some (.int a1), none] [] τ Q ↔ _
  simp only [s_197_10, s_197_11]
theorem h_198 {a0 a1 a2 : Int32} {v : Int32} (ho : ∃ fs, xRd σ 0 = some (.inr (7, fs))) (hm : Ra d 113 [.ref 0, .int a0, .int a1, .int a2] σ (.inl (some (.int v))) τ) : Ra (d + 1) 198 [.ref 0, .int a0, .int a1, .int a2] σ (.inl (some (.int v))) τ := by
  intro Q
  obtain ⟨fs, ho⟩ := ho
  show G (d + 1) 198 0 [some (.ref 0), some (.int a0), some (.int a1), some (.int a2), none] [] σ Q ↔ _
  simp only [s_198_0, s_198_1, s_198_2, s_198_3, s_198_4, s_198_5, ho, hm, hgf_s, hsel_0, hsel_1, hsel_2, hsel_3, hsel_4, hsel_5, hsel_6, hsel_7, hsel_8, hset_0, hset_1, hset_2, hset_3, hset_4, hset_5, hset_6, hset_7, hset_8, hpf_s, hcl_s, hai_s, hpi_0, hpi_1, hln_0, hln_1, List.length_cons, List.length_nil, xwr_1, xwr_2, xnew_1, xnew_n, xnew_s, xnew_z, Nat.reduceLT, ite_true, and_self, hp_8_0, hp_8_1, hn_8_1, hp_8_2, hn_8_2, hp_9_0, hp_9_1, hp_9_2, hp_9_3, hp_9_4, hp_9_5, hn_9_5, hp_9_6, hn_9_6, hp_9_7, hn_9_7, hp_10_0, hp_10_1, hp_10_2, hn_10_2, hp_10_3, hn_10_3, hp_11_0, hp_12_0, hn_12_0, hp_12_1, hp_12_2, hp_12_3, hp_12_4, hp_12_5, hn_12_5, hp_12_6, hn_12_6, hp_12_7, hp_12_8, hp_13_0, hn_13_0, hp_13_1, hp_13_2, hp_13_3, hp_14_0, hn_14_0, hp_14_1, hp_14_2, hp_14_3, xdef_8, xdef_9, xdef_10, xdef_11, xdef_12, xdef_13, xdef_14, Gk_v, Gk_n, xcat_nil, xcat_i, xcat_r, xcat_l, xcat_d, Nat.zero_le, Nat.reduceAdd, Nat.reduceLeDiff, true_and, and_true, ykl_i, ykl_r, ykl_n, ykl_l]
theorem h_198_1 {a0 a1 a2 : Int32} (ho : ∃ fs, xRd σ 0 = some (.inr (7, fs))) (hm : Ra d 113 [.ref 0, .int a0, .int a1, .int a2] σ (.inr 1) τ) : Ra (d + 1) 198 [.ref 0, .int a0, .int a1, .int a2] σ (.inl (some (.int (-2000000097)))) τ := by
  intro Q
  obtain ⟨fs, ho⟩ := ho
  have hh : xhd 198 4 1 = some (7, 4) := by decide
  show G (d + 1) 198 0 [some (.ref 0), some (.int a0), some (.int a1), some (.int a2), none] [] σ Q ↔ _
  simp only [s_198_0, s_198_1, s_198_2, s_198_3, s_198_4, ho, hm, Gk_e, hh, hgf_s, hsel_0, hsel_1, hsel_2, hsel_3, hsel_4, hsel_5, hsel_6, hsel_7, hsel_8, hset_0, hset_1, hset_2, hset_3, hset_4, hset_5, hset_6, hset_7, hset_8, hpf_s, hcl_s, hai_s, hpi_0, hpi_1, hln_0, hln_1, List.length_cons, List.length_nil, xwr_1, xwr_2, xnew_1, xnew_n, xnew_s, xnew_z, Nat.reduceLT, ite_true, and_self, hp_8_0, hp_8_1, hn_8_1, hp_8_2, hn_8_2, hp_9_0, hp_9_1, hp_9_2, hp_9_3, hp_9_4, hp_9_5, hn_9_5, hp_9_6, hn_9_6, hp_9_7, hn_9_7, hp_10_0, hp_10_1, hp_10_2, hn_10_2, hp_10_3, hn_10_3, hp_11_0, hp_12_0, hn_12_0, hp_12_1, hp_12_2, hp_12_3, hp_12_4, hp_12_5, hn_12_5, hp_12_6, hn_12_6, hp_12_7, hp_12_8, hp_13_0, hn_13_0, hp_13_1, hp_13_2, hp_13_3, hp_14_0, hn_14_0, hp_14_1, hp_14_2, hp_14_3, xdef_8, xdef_9, xdef_10, xdef_11, xdef_12, xdef_13, xdef_14, Gk_v, Gk_n, xcat_nil, xcat_i, xcat_r, xcat_l, xcat_d, Nat.zero_le, Nat.reduceAdd, Nat.reduceLeDiff, true_and, and_true, ykl_i, ykl_r, ykl_n, ykl_l]
  show G (d + 1) 198 7 [some (.ref 0), some (.int a0), some (.int a1), some (.int a2), none] [] τ Q ↔ _
  simp only [s_198_7, s_198_8]
theorem h_198_0 {a0 a1 a2 : Int32} (ho : ∃ fs, xRd σ 0 = some (.inr (7, fs))) (hm : Ra d 113 [.ref 0, .int a0, .int a1, .int a2] σ (.inr 0) τ) : Ra (d + 1) 198 [.ref 0, .int a0, .int a1, .int a2] σ (.inl (some (.int (-2000000098)))) τ := by
  intro Q
  obtain ⟨fs, ho⟩ := ho
  have hh : xhd 198 4 0 = some (10, 4) := by decide
  show G (d + 1) 198 0 [some (.ref 0), some (.int a0), some (.int a1), some (.int a2), none] [] σ Q ↔ _
  simp only [s_198_0, s_198_1, s_198_2, s_198_3, s_198_4, ho, hm, Gk_e, hh, hgf_s, hsel_0, hsel_1, hsel_2, hsel_3, hsel_4, hsel_5, hsel_6, hsel_7, hsel_8, hset_0, hset_1, hset_2, hset_3, hset_4, hset_5, hset_6, hset_7, hset_8, hpf_s, hcl_s, hai_s, hpi_0, hpi_1, hln_0, hln_1, List.length_cons, List.length_nil, xwr_1, xwr_2, xnew_1, xnew_n, xnew_s, xnew_z, Nat.reduceLT, ite_true, and_self, hp_8_0, hp_8_1, hn_8_1, hp_8_2, hn_8_2, hp_9_0, hp_9_1, hp_9_2, hp_9_3, hp_9_4, hp_9_5, hn_9_5, hp_9_6, hn_9_6, hp_9_7, hn_9_7, hp_10_0, hp_10_1, hp_10_2, hn_10_2, hp_10_3, hn_10_3, hp_11_0, hp_12_0, hn_12_0, hp_12_1, hp_12_2, hp_12_3, hp_12_4, hp_12_5, hn_12_5, hp_12_6, hn_12_6, hp_12_7, hp_12_8, hp_13_0, hn_13_0, hp_13_1, hp_13_2, hp_13_3, hp_14_0, hn_14_0, hp_14_1, hp_14_2, hp_14_3, xdef_8, xdef_9, xdef_10, xdef_11, xdef_12, xdef_13, xdef_14, Gk_v, Gk_n, xcat_nil, xcat_i, xcat_r, xcat_l, xcat_d, Nat.zero_le, Nat.reduceAdd, Nat.reduceLeDiff, true_and, and_true, ykl_i, ykl_r, ykl_n, ykl_l]
  show G (d + 1) 198 10 [some (.ref 0), some (.int a0), some (.int a1), some (.int a2), none] [] τ Q ↔ _
  simp only [s_198_10, s_198_11]
theorem h_198_2 {a0 a1 a2 : Int32} (ho : ∃ fs, xRd σ 0 = some (.inr (7, fs))) (hm : Ra d 113 [.ref 0, .int a0, .int a1, .int a2] σ (.inr 2) τ) : Ra (d + 1) 198 [.ref 0, .int a0, .int a1, .int a2] σ (.inl (some (.int (-2000000099)))) τ := by
  intro Q
  obtain ⟨fs, ho⟩ := ho
  have hh : xhd 198 4 2 = some (13, 4) := by decide
  show G (d + 1) 198 0 [some (.ref 0), some (.int a0), some (.int a1), some (.int a2), none] [] σ Q ↔ _
  simp only [s_198_0, s_198_1, s_198_2, s_198_3, s_198_4, ho, hm, Gk_e, hh, hgf_s, hsel_0, hsel_1, hsel_2, hsel_3, hsel_4, hsel_5, hsel_6, hsel_7, hsel_8, hset_0, hset_1, hset_2, hset_3, hset_4, hset_5, hset_6, hset_7, hset_8, hpf_s, hcl_s, hai_s, hpi_0, hpi_1, hln_0, hln_1, List.length_cons, List.length_nil, xwr_1, xwr_2, xnew_1, xnew_n, xnew_s, xnew_z, Nat.reduceLT, ite_true, and_self, hp_8_0, hp_8_1, hn_8_1, hp_8_2, hn_8_2, hp_9_0, hp_9_1, hp_9_2, hp_9_3, hp_9_4, hp_9_5, hn_9_5, hp_9_6, hn_9_6, hp_9_7, hn_9_7, hp_10_0, hp_10_1, hp_10_2, hn_10_2, hp_10_3, hn_10_3, hp_11_0, hp_12_0, hn_12_0, hp_12_1, hp_12_2, hp_12_3, hp_12_4, hp_12_5, hn_12_5, hp_12_6, hn_12_6, hp_12_7, hp_12_8, hp_13_0, hn_13_0, hp_13_1, hp_13_2, hp_13_3, hp_14_0, hn_14_0, hp_14_1, hp_14_2, hp_14_3, xdef_8, xdef_9, xdef_10, xdef_11, xdef_12, xdef_13, xdef_14, Gk_v, Gk_n, xcat_nil, xcat_i, xcat_r, xcat_l, xcat_d, Nat.zero_le, Nat.reduceAdd, Nat.reduceLeDiff, true_and, and_true, ykl_i, ykl_r, ykl_n, ykl_l]
  show G (d + 1) 198 13 [some (.ref 0), some (.int a0), some (.int a1), some (.int a2), none] [] τ Q ↔ _
  simp only [s_198_13, s_198_14]
theorem h_199 {a0 a1 : Int32} {v : Int32} (ho : ∃ fs, xRd σ 0 = some (.inr (7, fs))) (hm : Ra d 114 [.ref 0, .int a0, .int a1] σ (.inl (some (.int v))) τ) : Ra (d + 1) 199 [.ref 0, .int a0, .int a1] σ (.inl (some (.int v))) τ := by
  intro Q
  obtain ⟨fs, ho⟩ := ho
  show G (d + 1) 199 0 [some (.ref 0), some (.int a0), some (.int a1), none] [] σ Q ↔ _
  simp only [s_199_0, s_199_1, s_199_2, s_199_3, s_199_4, ho, hm, hgf_s, hsel_0, hsel_1, hsel_2, hsel_3, hsel_4, hsel_5, hsel_6, hsel_7, hsel_8, hset_0, hset_1, hset_2, hset_3, hset_4, hset_5, hset_6, hset_7, hset_8, hpf_s, hcl_s, hai_s, hpi_0, hpi_1, hln_0, hln_1, List.length_cons, List.length_nil, xwr_1, xwr_2, xnew_1, xnew_n, xnew_s, xnew_z, Nat.reduceLT, ite_true, and_self, hp_8_0, hp_8_1, hn_8_1, hp_8_2, hn_8_2, hp_9_0, hp_9_1, hp_9_2, hp_9_3, hp_9_4, hp_9_5, hn_9_5, hp_9_6, hn_9_6, hp_9_7, hn_9_7, hp_10_0, hp_10_1, hp_10_2, hn_10_2, hp_10_3, hn_10_3, hp_11_0, hp_12_0, hn_12_0, hp_12_1, hp_12_2, hp_12_3, hp_12_4, hp_12_5, hn_12_5, hp_12_6, hn_12_6, hp_12_7, hp_12_8, hp_13_0, hn_13_0, hp_13_1, hp_13_2, hp_13_3, hp_14_0, hn_14_0, hp_14_1, hp_14_2, hp_14_3, xdef_8, xdef_9, xdef_10, xdef_11, xdef_12, xdef_13, xdef_14, Gk_v, Gk_n, xcat_nil, xcat_i, xcat_r, xcat_l, xcat_d, Nat.zero_le, Nat.reduceAdd, Nat.reduceLeDiff, true_and, and_true, ykl_i, ykl_r, ykl_n, ykl_l]
theorem h_199_1 {a0 a1 : Int32} (ho : ∃ fs, xRd σ 0 = some (.inr (7, fs))) (hm : Ra d 114 [.ref 0, .int a0, .int a1] σ (.inr 1) τ) : Ra (d + 1) 199 [.ref 0, .int a0, .int a1] σ (.inl (some (.int (-2000000097)))) τ := by
  intro Q
  obtain ⟨fs, ho⟩ := ho
  have hh : xhd 199 3 1 = some (6, 3) := by decide
  show G (d + 1) 199 0 [some (.ref 0), some (.int a0), some (.int a1), none] [] σ Q ↔ _
  simp only [s_199_0, s_199_1, s_199_2, s_199_3, ho, hm, Gk_e, hh, hgf_s, hsel_0, hsel_1, hsel_2, hsel_3, hsel_4, hsel_5, hsel_6, hsel_7, hsel_8, hset_0, hset_1, hset_2, hset_3, hset_4, hset_5, hset_6, hset_7, hset_8, hpf_s, hcl_s, hai_s, hpi_0, hpi_1, hln_0, hln_1, List.length_cons, List.length_nil, xwr_1, xwr_2, xnew_1, xnew_n, xnew_s, xnew_z, Nat.reduceLT, ite_true, and_self, hp_8_0, hp_8_1, hn_8_1, hp_8_2, hn_8_2, hp_9_0, hp_9_1, hp_9_2, hp_9_3, hp_9_4, hp_9_5, hn_9_5, hp_9_6, hn_9_6, hp_9_7, hn_9_7, hp_10_0, hp_10_1, hp_10_2, hn_10_2, hp_10_3, hn_10_3, hp_11_0, hp_12_0, hn_12_0, hp_12_1, hp_12_2, hp_12_3, hp_12_4, hp_12_5, hn_12_5, hp_12_6, hn_12_6, hp_12_7, hp_12_8, hp_13_0, hn_13_0, hp_13_1, hp_13_2, hp_13_3, hp_14_0, hn_14_0, hp_14_1, hp_14_2, hp_14_3, xdef_8, xdef_9, xdef_10, xdef_11, xdef_12, xdef_13, xdef_14, Gk_v, Gk_n, xcat_nil, xcat_i, xcat_r, xcat_l, xcat_d, Nat.zero_le, Nat.reduceAdd, Nat.reduceLeDiff, true_and, and_true, ykl_i, ykl_r, ykl_n, ykl_l]
  show G (d + 1) 199 6 [some (.ref 0), some (.int a0), some (.int a1), none] [] τ Q ↔ _
  simp only [s_199_6, s_199_7]
theorem h_199_0 {a0 a1 : Int32} (ho : ∃ fs, xRd σ 0 = some (.inr (7, fs))) (hm : Ra d 114 [.ref 0, .int a0, .int a1] σ (.inr 0) τ) : Ra (d + 1) 199 [.ref 0, .int a0, .int a1] σ (.inl (some (.int (-2000000098)))) τ := by
  intro Q
  obtain ⟨fs, ho⟩ := ho
  have hh : xhd 199 3 0 = some (9, 3) := by decide
  show G (d + 1) 199 0 [some (.ref 0), some (.int a0), some (.int a1), none] [] σ Q ↔ _
  simp only [s_199_0, s_199_1, s_199_2, s_199_3, ho, hm, Gk_e, hh, hgf_s, hsel_0, hsel_1, hsel_2, hsel_3, hsel_4, hsel_5, hsel_6, hsel_7, hsel_8, hset_0, hset_1, hset_2, hset_3, hset_4, hset_5, hset_6, hset_7, hset_8, hpf_s, hcl_s, hai_s, hpi_0, hpi_1, hln_0, hln_1, List.length_cons, List.length_nil, xwr_1, xwr_2, xnew_1, xnew_n, xnew_s, xnew_z, Nat.reduceLT, ite_true, and_self, hp_8_0, hp_8_1, hn_8_1, hp_8_2, hn_8_2, hp_9_0, hp_9_1, hp_9_2, hp_9_3, hp_9_4, hp_9_5, hn_9_5, hp_9_6, hn_9_6, hp_9_7, hn_9_7, hp_10_0, hp_10_1, hp_10_2, hn_10_2, hp_10_3, hn_10_3, hp_11_0, hp_12_0, hn_12_0, hp_12_1, hp_12_2, hp_12_3, hp_12_4, hp_12_5, hn_12_5, hp_12_6, hn_12_6, hp_12_7, hp_12_8, hp_13_0, hn_13_0, hp_13_1, hp_13_2, hp_13_3, hp_14_0, hn_14_0, hp_14_1, hp_14_2, hp_14_3, xdef_8, xdef_9, xdef_10, xdef_11, xdef_12, xdef_13, xdef_14, Gk_v, Gk_n, xcat_nil, xcat_i, xcat_r, xcat_l, xcat_d, Nat.zero_le, Nat.reduceAdd, Nat.reduceLeDiff, true_and, and_true, ykl_i, ykl_r, ykl_n, ykl_l]
  show G (d + 1) 199 9 [some (.ref 0), some (.int a0), some (.int a1), none] [] τ Q ↔ _
  simp only [s_199_9, s_199_10]
theorem h_200 {a0 : Int32} {v : Int32} (ho : ∃ fs, xRd σ 0 = some (.inr (7, fs))) (hm : Ra d 115 [.ref 0, .int a0] σ (.inl (some (.int v))) τ) : Ra (d + 1) 200 [.ref 0, .int a0] σ (.inl (some (.int v))) τ := by
  intro Q
  obtain ⟨fs, ho⟩ := ho
  show G (d + 1) 200 0 [some (.ref 0), some (.int a0), none] [] σ Q ↔ _
  simp only [s_200_0, s_200_1, s_200_2, s_200_3, ho, hm, hgf_s, hsel_0, hsel_1, hsel_2, hsel_3, hsel_4, hsel_5, hsel_6, hsel_7, hsel_8, hset_0, hset_1, hset_2, hset_3, hset_4, hset_5, hset_6, hset_7, hset_8, hpf_s, hcl_s, hai_s, hpi_0, hpi_1, hln_0, hln_1, List.length_cons, List.length_nil, xwr_1, xwr_2, xnew_1, xnew_n, xnew_s, xnew_z, Nat.reduceLT, ite_true, and_self, hp_8_0, hp_8_1, hn_8_1, hp_8_2, hn_8_2, hp_9_0, hp_9_1, hp_9_2, hp_9_3, hp_9_4, hp_9_5, hn_9_5, hp_9_6, hn_9_6, hp_9_7, hn_9_7, hp_10_0, hp_10_1, hp_10_2, hn_10_2, hp_10_3, hn_10_3, hp_11_0, hp_12_0, hn_12_0, hp_12_1, hp_12_2, hp_12_3, hp_12_4, hp_12_5, hn_12_5, hp_12_6, hn_12_6, hp_12_7, hp_12_8, hp_13_0, hn_13_0, hp_13_1, hp_13_2, hp_13_3, hp_14_0, hn_14_0, hp_14_1, hp_14_2, hp_14_3, xdef_8, xdef_9, xdef_10, xdef_11, xdef_12, xdef_13, xdef_14, Gk_v, Gk_n, xcat_nil, xcat_i, xcat_r, xcat_l, xcat_d, Nat.zero_le, Nat.reduceAdd, Nat.reduceLeDiff, true_and, and_true, ykl_i, ykl_r, ykl_n, ykl_l]
theorem h_200_1 {a0 : Int32} (ho : ∃ fs, xRd σ 0 = some (.inr (7, fs))) (hm : Ra d 115 [.ref 0, .int a0] σ (.inr 1) τ) : Ra (d + 1) 200 [.ref 0, .int a0] σ (.inl (some (.int (-2000000097)))) τ := by
  intro Q
  obtain ⟨fs, ho⟩ := ho
  have hh : xhd 200 2 1 = some (5, 2) := by decide
  show G (d + 1) 200 0 [some (.ref 0), some (.int a0), none] [] σ Q ↔ _
  simp only [s_200_0, s_200_1, s_200_2, ho, hm, Gk_e, hh, hgf_s, hsel_0, hsel_1, hsel_2, hsel_3, hsel_4, hsel_5, hsel_6, hsel_7, hsel_8, hset_0, hset_1, hset_2, hset_3, hset_4, hset_5, hset_6, hset_7, hset_8, hpf_s, hcl_s, hai_s, hpi_0, hpi_1, hln_0, hln_1, List.length_cons, List.length_nil, xwr_1, xwr_2, xnew_1, xnew_n, xnew_s, xnew_z, Nat.reduceLT, ite_true, and_self, hp_8_0, hp_8_1, hn_8_1, hp_8_2, hn_8_2, hp_9_0, hp_9_1, hp_9_2, hp_9_3, hp_9_4, hp_9_5, hn_9_5, hp_9_6, hn_9_6, hp_9_7, hn_9_7, hp_10_0, hp_10_1, hp_10_2, hn_10_2, hp_10_3, hn_10_3, hp_11_0, hp_12_0, hn_12_0, hp_12_1, hp_12_2, hp_12_3, hp_12_4, hp_12_5, hn_12_5, hp_12_6, hn_12_6, hp_12_7, hp_12_8, hp_13_0, hn_13_0, hp_13_1, hp_13_2, hp_13_3, hp_14_0, hn_14_0, hp_14_1, hp_14_2, hp_14_3, xdef_8, xdef_9, xdef_10, xdef_11, xdef_12, xdef_13, xdef_14, Gk_v, Gk_n, xcat_nil, xcat_i, xcat_r, xcat_l, xcat_d, Nat.zero_le, Nat.reduceAdd, Nat.reduceLeDiff, true_and, and_true, ykl_i, ykl_r, ykl_n, ykl_l]
  show G (d + 1) 200 5 [some (.ref 0), some (.int a0), none] [] τ Q ↔ _
  simp only [s_200_5, s_200_6]
theorem h_201 {a0 : Int32} {v : Int32} (ho : ∃ fs, xRd σ 0 = some (.inr (7, fs))) (hm : Ra d 116 [.ref 0, .int a0] σ (.inl (some (.int v))) τ) : Ra (d + 1) 201 [.ref 0, .int a0] σ (.inl (some (.int v))) τ := by
  intro Q
  obtain ⟨fs, ho⟩ := ho
  show G (d + 1) 201 0 [some (.ref 0), some (.int a0), none] [] σ Q ↔ _
  simp only [s_201_0, s_201_1, s_201_2, s_201_3, ho, hm, hgf_s, hsel_0, hsel_1, hsel_2, hsel_3, hsel_4, hsel_5, hsel_6, hsel_7, hsel_8, hset_0, hset_1, hset_2, hset_3, hset_4, hset_5, hset_6, hset_7, hset_8, hpf_s, hcl_s, hai_s, hpi_0, hpi_1, hln_0, hln_1, List.length_cons, List.length_nil, xwr_1, xwr_2, xnew_1, xnew_n, xnew_s, xnew_z, Nat.reduceLT, ite_true, and_self, hp_8_0, hp_8_1, hn_8_1, hp_8_2, hn_8_2, hp_9_0, hp_9_1, hp_9_2, hp_9_3, hp_9_4, hp_9_5, hn_9_5, hp_9_6, hn_9_6, hp_9_7, hn_9_7, hp_10_0, hp_10_1, hp_10_2, hn_10_2, hp_10_3, hn_10_3, hp_11_0, hp_12_0, hn_12_0, hp_12_1, hp_12_2, hp_12_3, hp_12_4, hp_12_5, hn_12_5, hp_12_6, hn_12_6, hp_12_7, hp_12_8, hp_13_0, hn_13_0, hp_13_1, hp_13_2, hp_13_3, hp_14_0, hn_14_0, hp_14_1, hp_14_2, hp_14_3, xdef_8, xdef_9, xdef_10, xdef_11, xdef_12, xdef_13, xdef_14, Gk_v, Gk_n, xcat_nil, xcat_i, xcat_r, xcat_l, xcat_d, Nat.zero_le, Nat.reduceAdd, Nat.reduceLeDiff, true_and, and_true, ykl_i, ykl_r, ykl_n, ykl_l]
theorem h_201_1 {a0 : Int32} (ho : ∃ fs, xRd σ 0 = some (.inr (7, fs))) (hm : Ra d 116 [.ref 0, .int a0] σ (.inr 1) τ) : Ra (d + 1) 201 [.ref 0, .int a0] σ (.inl (some (.int (-2000000097)))) τ := by
  intro Q
  obtain ⟨fs, ho⟩ := ho
  have hh : xhd 201 2 1 = some (5, 2) := by decide
  show G (d + 1) 201 0 [some (.ref 0), some (.int a0), none] [] σ Q ↔ _
  simp only [s_201_0, s_201_1, s_201_2, ho, hm, Gk_e, hh, hgf_s, hsel_0, hsel_1, hsel_2, hsel_3, hsel_4, hsel_5, hsel_6, hsel_7, hsel_8, hset_0, hset_1, hset_2, hset_3, hset_4, hset_5, hset_6, hset_7, hset_8, hpf_s, hcl_s, hai_s, hpi_0, hpi_1, hln_0, hln_1, List.length_cons, List.length_nil, xwr_1, xwr_2, xnew_1, xnew_n, xnew_s, xnew_z, Nat.reduceLT, ite_true, and_self, hp_8_0, hp_8_1, hn_8_1, hp_8_2, hn_8_2, hp_9_0, hp_9_1, hp_9_2, hp_9_3, hp_9_4, hp_9_5, hn_9_5, hp_9_6, hn_9_6, hp_9_7, hn_9_7, hp_10_0, hp_10_1, hp_10_2, hn_10_2, hp_10_3, hn_10_3, hp_11_0, hp_12_0, hn_12_0, hp_12_1, hp_12_2, hp_12_3, hp_12_4, hp_12_5, hn_12_5, hp_12_6, hn_12_6, hp_12_7, hp_12_8, hp_13_0, hn_13_0, hp_13_1, hp_13_2, hp_13_3, hp_14_0, hn_14_0, hp_14_1, hp_14_2, hp_14_3, xdef_8, xdef_9, xdef_10, xdef_11, xdef_12, xdef_13, xdef_14, Gk_v, Gk_n, xcat_nil, xcat_i, xcat_r, xcat_l, xcat_d, Nat.zero_le, Nat.reduceAdd, Nat.reduceLeDiff, true_and, and_true, ykl_i, ykl_r, ykl_n, ykl_l]
  show G (d + 1) 201 5 [some (.ref 0), some (.int a0), none] [] τ Q ↔ _
  simp only [s_201_5, s_201_6]
theorem h_201_3 {a0 : Int32} (ho : ∃ fs, xRd σ 0 = some (.inr (7, fs))) (hm : Ra d 116 [.ref 0, .int a0] σ (.inr 3) τ) : Ra (d + 1) 201 [.ref 0, .int a0] σ (.inl (some (.int (-2000000100)))) τ := by
  intro Q
  obtain ⟨fs, ho⟩ := ho
  have hh : xhd 201 2 3 = some (8, 2) := by decide
  show G (d + 1) 201 0 [some (.ref 0), some (.int a0), none] [] σ Q ↔ _
  simp only [s_201_0, s_201_1, s_201_2, ho, hm, Gk_e, hh, hgf_s, hsel_0, hsel_1, hsel_2, hsel_3, hsel_4, hsel_5, hsel_6, hsel_7, hsel_8, hset_0, hset_1, hset_2, hset_3, hset_4, hset_5, hset_6, hset_7, hset_8, hpf_s, hcl_s, hai_s, hpi_0, hpi_1, hln_0, hln_1, List.length_cons, List.length_nil, xwr_1, xwr_2, xnew_1, xnew_n, xnew_s, xnew_z, Nat.reduceLT, ite_true, and_self, hp_8_0, hp_8_1, hn_8_1, hp_8_2, hn_8_2, hp_9_0, hp_9_1, hp_9_2, hp_9_3, hp_9_4, hp_9_5, hn_9_5, hp_9_6, hn_9_6, hp_9_7, hn_9_7, hp_10_0, hp_10_1, hp_10_2, hn_10_2, hp_10_3, hn_10_3, hp_11_0, hp_12_0, hn_12_0, hp_12_1, hp_12_2, hp_12_3, hp_12_4, hp_12_5, hn_12_5, hp_12_6, hn_12_6, hp_12_7, hp_12_8, hp_13_0, hn_13_0, hp_13_1, hp_13_2, hp_13_3, hp_14_0, hn_14_0, hp_14_1, hp_14_2, hp_14_3, xdef_8, xdef_9, xdef_10, xdef_11, xdef_12, xdef_13, xdef_14, Gk_v, Gk_n, xcat_nil, xcat_i, xcat_r, xcat_l, xcat_d, Nat.zero_le, Nat.reduceAdd, Nat.reduceLeDiff, true_and, and_true, ykl_i, ykl_r, ykl_n, ykl_l]
  show G (d + 1) 201 8 [some (.ref 0), some (.int a0), none] [] τ Q ↔ _
  simp only [s_201_8, s_201_9]
end
section
variable {d : Nat} {σ : xS} {D : yD} {k : Nat} {E : Nat → yD} {s0 s1 : Option yD} {n : Nat} {B : Nat → Nat} {eo en : Int32} {t : yT}
theorem pO : ∃ fs, xRd (yemb t) 0 = some (.inr (7, fs)) := ⟨_, (yrd_lt (by decide)).trans (yemb_obj yO_0)⟩
theorem yisf_nat {q : Nat} (h : D.f ≤ 6) (hq : q < 10000) : yisf D (yI q) = decide (q < D.f) := by
  unfold yisf
  congr 1
  exact propext ⟨fun h' => (yI_lt (by omega) (by omega)).mp h'.2, fun h' => ⟨Int32.not_lt.mp (yI_nneg (by omega)), (yI_lt (by omega) (by omega)).mpr h'⟩⟩
theorem pisp {p : Nat} (h : D.n ≤ 40) (hp : p < D.n) : yisp D (yI p) = true := by
  rw [yisp_nat h (by omega)]
  exact decide_eq_true hp
theorem pisp_no {p : Nat} (h : D.n ≤ 40) (hq : p < 10000) (hp : ¬ p < D.n) : yisp D (yI p) = false := by
  rw [yisp_nat h hq]
  exact decide_eq_false hp
theorem c_97 (I : pI σ D k E s0 s1 n B eo en) : Ra d 97 [.ref 0] σ (.inl (some (.int eo))) σ := by
  obtain ⟨t, rfl, C, Z⟩ := I
  intro Q
  have e1 : t.A 0 11 = eo := C.2.2.2.2.1
  show G d 97 0 [some (.ref 0)] [] (yemb t) Q ↔ _
  simp only [s_97_0, s_97_1, s_97_2, yO_0, e1]
theorem c_98 (I : pI σ D k E s0 s1 n B eo en) : Ra d 98 [.ref 0] σ (.inl (some (.int en))) σ := by
  obtain ⟨t, rfl, C, Z⟩ := I
  intro Q
  have e1 : t.A 0 12 = en := C.2.2.2.2.2
  show G d 98 0 [some (.ref 0)] [] (yemb t) Q ↔ _
  simp only [s_98_0, s_98_1, s_98_2, yO_0, e1]
theorem c_118 (I : pI σ D k E s0 s1 n B eo en) : Ra (d + 6) 118 [.ref 0] σ (.inl (some (.long (ysum D)))) σ := by
  obtain ⟨t, rfl, C, Z⟩ := I
  exact m_118 C.1
theorem c_117_0 (I : pI σ D 0 E s0 s1 n B eo en) : Ra (d + 2) 117 [.ref 0] σ (.inl (some (.int (-1)))) σ := by
  obtain ⟨t, rfl, C, Z⟩ := I
  obtain ⟨w, H⟩ := C.2.1
  intro Q
  have g := (m_7 (d := d) C.1 H).1 rfl
  show G (d + 2) 117 0 [some (.ref 0)] [] (yemb t) Q ↔ _
  simp only [s_117_0, s_117_1, s_117_2, s_117_3, s_117_4, s_117_5, yO_0, yO_38, g, Gk_v, Gk_n, xcat_nil, xcat_i, xcat_r, xcat_l, xcat_d, Nat.zero_le, Nat.reduceAdd, Nat.reduceLeDiff, true_and, and_true, ykl_i, ykl_r, ykl_n, ykl_l]
theorem c_117 (I : pI σ D k E s0 s1 n B eo en) (hk : 1 ≤ k) : ∃ τ, Ra (d + 2) 117 [.ref 0] σ (.inl (some (.int (yI (k - 1))))) τ ∧ (pI τ (E 0) (k - 1) (fun j => E (j + 1)) s0 s1 n B eo en ∧ pF pcl 0 0 σ τ) := by
  obtain ⟨t, rfl, C, Z⟩ := I
  obtain ⟨w, H⟩ := C.2.1
  obtain ⟨u1, h1, ⟨W1, H1⟩, F1⟩ := (m_7 (d := d) C.1 H).2 hk
  have C1 : yCI u1 (E 0) (k - 1) (fun j => E (j + 1)) s0 s1 n B eo en := yCI_upd C F1 (fun a h => by omega) W1 ⟨_, H1⟩
  refine ⟨yemb u1, fun Q => ?_, pI_y C1 F1 Z⟩
  show G (d + 2) 117 0 [some (.ref 0)] [] (yemb t) Q ↔ _
  simp only [s_117_0, s_117_1, s_117_2, s_117_3, s_117_4, s_117_5, yO_0, yO_38, h1, Gk_v, Gk_n, xcat_nil, xcat_i, xcat_r, xcat_l, xcat_d, Nat.zero_le, Nat.reduceAdd, Nat.reduceLeDiff, true_and, and_true, ykl_i, ykl_r, ykl_n, ykl_l]
theorem c_186 (I : pI σ D k E s0 s1 n B eo en) {w : Nat} (hw : w < 10) : Ra (d + 6) 186 [.ref 0, .int (yI w)] σ (.inl (some (.int (ytS D w)))) σ := by
  obtain ⟨t, rfl, C, Z⟩ := I
  exact h_186 pO (m_99 C.1 hw)
theorem c_186t (I : pI σ D k E s0 s1 n B eo en) (hr : σ.2.1.1 < 900000)  : ∃ τ, Ra (d + 6) 186 [.ref 0, .int 10] σ (.inl (some (.int (-2000000098)))) τ ∧ (pI τ D k E s0 s1 n B eo en ∧ pF pcl 1 6 σ τ) := by
  obtain ⟨t, rfl, C, Z⟩ := I
  have hz : t.z.1.1 < 900000 := hr
  exact ⟨yemb t.bp, h_186_0 pO (q_99t (by decide) hz), pI_bp C Z⟩
theorem c_187 (I : pI σ D k E s0 s1 n B eo en) {p w : Nat} (hp : p < D.n) (hw : w < 9) : Ra (d + 6) 187 [.ref 0, .int (yI p), .int (yI w)] σ (.inl (some (.int (ytP D p w)))) σ := by
  obtain ⟨t, rfl, C, Z⟩ := I
  exact h_187 pO (m_100 C.1 hp (pisp C.1.ok.n40 hp) hw)
theorem c_187t (I : pI σ D k E s0 s1 n B eo en) (hr : σ.2.1.1 < 900000) {p : Nat} {w : Int32} (hp : ¬ p < D.n) (hq : p < 10000) : ∃ τ, Ra (d + 6) 187 [.ref 0, .int (yI p), .int w] σ (.inl (some (.int (-2000000097)))) τ ∧ (pI τ D k E s0 s1 n B eo en ∧ pF pcl 1 6 σ τ) := by
  obtain ⟨t, rfl, C, Z⟩ := I
  have hz : t.z.1.1 < 900000 := hr
  exact ⟨yemb t.bp, h_187_1 pO ((q_100t C hz).1 (pisp_no C.1.ok.n40 hq hp)), pI_bp C Z⟩
theorem c_188t (I : pI σ D k E s0 s1 n B eo en) (hr : σ.2.1.1 < 900000) {p : Nat} {w : Int32} (hp : ¬ p < D.f) (hq : p < 10000) : ∃ τ, Ra (d + 5) 188 [.ref 0, .int (yI p), .int w] σ (.inl (some (.int (-2000000097)))) τ ∧ (pI τ D k E s0 s1 n B eo en ∧ pF pcl 1 6 σ τ) := by
  obtain ⟨t, rfl, C, Z⟩ := I
  have hz : t.z.1.1 < 900000 := hr
  exact ⟨yemb t.bp, h_188_1 pO ((q_101t C hz).1 (by rw [yisf_nat C.1.ok.f6 hq]; exact decide_eq_false hp)), pI_bp C Z⟩
theorem c_189 (I : pI σ D k E s0 s1 n B eo en) (hr : σ.2.1.1 < 900000) {p : Nat} (hp : p < D.n) : Ra (d + 6) 189 [.ref 0, .int (yI p)] σ (.inl (some (.int (ywhy D p)))) σ := by
  obtain ⟨t, rfl, C, Z⟩ := I
  have hz : t.z.1.1 < 900000 := hr
  have h40 := C.1.ok.n40
  refine h_189 pO (fun Q => ?_)
  rw [m_102 C.1 hz, if_pos ⟨Int32.not_lt.mp (yI_nneg (by omega)), (yI_lt (by omega) (by omega)).mpr hp⟩, yI_clamp (by omega)]
theorem c_189t (I : pI σ D k E s0 s1 n B eo en) (hr : σ.2.1.1 < 900000) {p : Nat} (hp : ¬ p < D.n) (hq : p < 10000) : ∃ τ, Ra (d + 6) 189 [.ref 0, .int (yI p)] σ (.inl (some (.int (-2000000097)))) τ ∧ (pI τ D k E s0 s1 n B eo en ∧ pF pcl 1 6 σ τ) := by
  obtain ⟨t, rfl, C, Z⟩ := I
  have hz : t.z.1.1 < 900000 := hr
  exact ⟨yemb t.bp, h_189_1 pO (fun Q => by rw [m_102 C.1 hz, if_neg (fun q => hp ((yI_lt (by omega) (by have := C.1.ok.n40; omega)).mp q.2))]), pI_bp C Z⟩
theorem c_190t (I : pI σ D k E s0 s1 n B eo en) (hr : σ.2.1.1 < 900000)  : ∃ τ, Ra (d + 4) 190 [.ref 0, .int (-1)] σ (.inl (some (.int (-2000000097)))) τ ∧ (pI τ D k E s0 s1 n B eo en ∧ pF pcl 1 6 σ τ) := by
  obtain ⟨t, rfl, C, Z⟩ := I
  have hz : t.z.1.1 < 900000 := hr
  exact ⟨yemb t.bp, h_190_1 pO (q_103t C (decide_eq_false (fun q => absurd q.1 (by decide))) hz), pI_bp C Z⟩
theorem c_191t (I : pI σ D k E s0 s1 n B eo en) (hr : σ.2.1.1 < 900000)  : ∃ τ, Ra (d + 5) 191 [.ref 0, .int 21] σ (.inl (some (.int (-2000000098)))) τ ∧ (pI τ D k E s0 s1 n B eo en ∧ pF pcl 1 6 σ τ) := by
  obtain ⟨t, rfl, C, Z⟩ := I
  have hz : t.z.1.1 < 900000 := hr
  exact ⟨yemb t.bp, h_191_0 pO (q_104t (by decide) hz), pI_bp C Z⟩
theorem c_192t (I : pI σ D k E s0 s1 n B eo en) (hr : σ.2.1.1 < 900000)  : ∃ τ, Ra (d + 6) 192 [.ref 0, .int 11] σ (.inl (some (.long (-2000000098)))) τ ∧ (pI τ D k E s0 s1 n B eo en ∧ pF pcl 1 6 σ τ) := by
  obtain ⟨t, rfl, C, Z⟩ := I
  have hz : t.z.1.1 < 900000 := hr
  exact ⟨yemb t.bp, h_192_0 pO (q_105t (by decide) hz), pI_bp C Z⟩
theorem c_193 (I : pI σ D k E s0 s1 n B eo en) {f q r g b : Nat} (hq : q < D.n) (hf : f ≤ q) (h1 : r < 256) (h2 : g < 256) (h3 : b < 256) : ∃ τ, Ra (d + 3) 193 [.ref 0, .int (yI f), .int (yI q), .int (yI r), .int (yI g), .int (yI b)] σ (.inl (some (.int (ypt (ycolor (yI r) (yI g) (yI b)) (q + 1 - f) f 0 D).1))) τ ∧ (pI τ (ypt (ycolor (yI r) (yI g) (yI b)) (q + 1 - f) f 0 D).2 (min 8 (k + 1)) (ypush D E) s0 s1 n B eo en ∧ pF pcl 0 0 σ τ) := by
  obtain ⟨t, rfl, C, Z⟩ := I
  obtain ⟨u, hu, C1, F⟩ := q_108 (d := d) (r := yI r) (g := yI g) (b := yI b) C (pisp C.1.ok.n40 (Nat.lt_of_le_of_lt hf hq)) (pisp C.1.ok.n40 hq) (Nat.lt_of_le_of_lt hf hq) hq hf (by rw [ycols_nat (by omega) (by omega) (by omega), decide_eq_false (by omega)]; rfl)
  exact ⟨yemb u, h_193 pO hu, pI_y C1 F Z⟩
theorem c_193t3 (I : pI σ D k E s0 s1 n B eo en) (hr : σ.2.1.1 < 900000) {f q r g b : Nat} (hf : f < 10000) (hq : q < 10000) (h1 : r < 10000) (h2 : g < 10000) (h3 : b < 10000) (h : (if D.n ≤ f ∨ D.n ≤ q then 3 else if q < f ∨ (255 < r ∨ (255 < g ∨ 255 < b)) then 2 else 0) = 3) : ∃ τ, Ra (d + 3) 193 [.ref 0, .int (yI f), .int (yI q), .int (yI r), .int (yI g), .int (yI b)] σ (.inl (some (.int (-2000000097)))) τ ∧ (pI τ D k E s0 s1 n B eo en ∧ pF pcl 1 6 σ τ) := by
  obtain ⟨t, rfl, C, Z⟩ := I
  have hz : t.z.1.1 < 900000 := hr
  exact ⟨yemb t.bp, h_193_1 pO ((q_108t C hz).1 (by rw [yff_nat C.1.ok.n40 hf hq h1 h2 h3, h]; rfl)), pI_bp C Z⟩
theorem c_193t2 (I : pI σ D k E s0 s1 n B eo en) (hr : σ.2.1.1 < 900000) {f q r g b : Nat} (hf : f < 10000) (hq : q < 10000) (h1 : r < 10000) (h2 : g < 10000) (h3 : b < 10000) (h : (if D.n ≤ f ∨ D.n ≤ q then 3 else if q < f ∨ (255 < r ∨ (255 < g ∨ 255 < b)) then 2 else 0) = 2) : ∃ τ, Ra (d + 3) 193 [.ref 0, .int (yI f), .int (yI q), .int (yI r), .int (yI g), .int (yI b)] σ (.inl (some (.int (-2000000098)))) τ ∧ (pI τ D k E s0 s1 n B eo en ∧ pF pcl 1 6 σ τ) := by
  obtain ⟨t, rfl, C, Z⟩ := I
  have hz : t.z.1.1 < 900000 := hr
  exact ⟨yemb t.bp, h_193_0 pO ((q_108t C hz).2 (by rw [yff_nat C.1.ok.n40 hf hq h1 h2 h3, h]; rfl)), pI_bp C Z⟩
theorem c_194 (I : pI σ D k E s0 s1 n B eo en) {b : Nat} (hb : b < 10000) : ∃ τ, Ra (d + 3) 194 [.ref 0, .int (yI b)] σ (.inl (some (.int ((yturn D b).fm 0)))) τ ∧ (pI τ (yturn D b) (min 8 (k + 1)) (ypush D E) s0 s1 n B eo en ∧ pF pcl 0 0 σ τ) := by
  obtain ⟨t, rfl, C, Z⟩ := I
  obtain ⟨u, hu, C1, F⟩ := q_109 (d := d) C hb
  exact ⟨yemb u, h_194 pO hu, pI_y C1 F Z⟩
theorem c_194t (I : pI σ D k E s0 s1 n B eo en) (hr : σ.2.1.1 < 900000)  : ∃ τ, Ra (d + 3) 194 [.ref 0, .int 10000] σ (.inl (some (.int (-2000000098)))) τ ∧ (pI τ D k E s0 s1 n B eo en ∧ pF pcl 1 6 σ τ) := by
  obtain ⟨t, rfl, C, Z⟩ := I
  have hz : t.z.1.1 < 900000 := hr
  exact ⟨yemb t.bp, h_194_0 pO (q_109t (by decide) hz), pI_bp C Z⟩
theorem c_195 (I : pI σ D k E s0 s1 n B eo en) {l : Nat} (hl : l < 256) : ∃ τ, Ra (d + 3) 195 [.ref 0, .int (yI l)] σ (.inl (some (.int D.lv))) τ ∧ (pI τ (D.slv (yI l)) (min 8 (k + 1)) (ypush D E) s0 s1 n B eo en ∧ pF pcl 0 0 σ τ) := by
  obtain ⟨t, rfl, C, Z⟩ := I
  obtain ⟨u, hu, C1, F⟩ := q_110 (d := d) C hl (by rw [ychan_nat (by omega)]; exact decide_eq_true (by omega))
  exact ⟨yemb u, h_195 pO hu, pI_y C1 F Z⟩
theorem c_195t (I : pI σ D k E s0 s1 n B eo en) (hr : σ.2.1.1 < 900000) {l : Nat} (hl : ¬ l < 256) (hl' : l < 10000) : ∃ τ, Ra (d + 3) 195 [.ref 0, .int (yI l)] σ (.inl (some (.int (-2000000098)))) τ ∧ (pI τ D k E s0 s1 n B eo en ∧ pF pcl 1 6 σ τ) := by
  obtain ⟨t, rfl, C, Z⟩ := I
  have hz : t.z.1.1 < 900000 := hr
  exact ⟨yemb t.bp, h_195_0 pO (q_110t (by rw [ychan_nat hl']; exact decide_eq_false (by omega)) hz), pI_bp C Z⟩
theorem c_196 (I : pI σ D k E s0 s1 n B eo en) {T : Nat} (h1 : 1 ≤ T) (hT : T ≤ 50) : ∃ τ, Ra (d + 7) 196 [.ref 0, .int (yI T)] σ (.inl (some (.int (ywrongs (yshows T D))))) τ ∧ (pI τ (yshows T D) (min 8 (k + 1)) (ypush D E) s0 s1 n B eo en ∧ pF pcl 0 0 σ τ) := by
  obtain ⟨t, rfl, C, Z⟩ := I
  obtain ⟨u, hu, C1, F⟩ := q_111 (d := d) C h1 hT
  exact ⟨yemb u, h_196 pO hu, pI_y C1 F Z⟩
theorem c_196t (I : pI σ D k E s0 s1 n B eo en) (hr : σ.2.1.1 < 900000)  : ∃ τ, Ra (d + 7) 196 [.ref 0, .int 51] σ (.inl (some (.int (-2000000098)))) τ ∧ (pI τ D k E s0 s1 n B eo en ∧ pF pcl 1 6 σ τ) := by
  obtain ⟨t, rfl, C, Z⟩ := I
  have hz : t.z.1.1 < 900000 := hr
  exact ⟨yemb t.bp, h_196_0 pO (q_111t (by decide) hz), pI_bp C Z⟩
theorem c_197 (I : pI σ D k E s0 s1 n B eo en) {p : Nat} {b : Bool} (hp : p < D.n) : ∃ τ, Ra (d + 3) 197 [.ref 0, .int (yI p), .int (yb b)] σ (.inl (some (.int (yb (D.bp p))))) τ ∧ (pI τ (D.sbw (ybs D.bw p b)) (min 8 (k + 1)) (ypush D E) s0 s1 n B eo en ∧ pF pcl 0 0 σ τ) := by
  obtain ⟨t, rfl, C, Z⟩ := I
  obtain ⟨u, hu, C1, F⟩ := q_112 (d := d) C hp (pisp C.1.ok.n40 hp)
  exact ⟨yemb u, h_197 pO hu, pI_y C1 F Z⟩
theorem c_197t (I : pI σ D k E s0 s1 n B eo en) (hr : σ.2.1.1 < 900000) {p : Nat} {b : Int32} (hp : ¬ p < D.n) (hq : p < 10000) : ∃ τ, Ra (d + 3) 197 [.ref 0, .int (yI p), .int b] σ (.inl (some (.int (-2000000097)))) τ ∧ (pI τ D k E s0 s1 n B eo en ∧ pF pcl 1 6 σ τ) := by
  obtain ⟨t, rfl, C, Z⟩ := I
  have hz : t.z.1.1 < 900000 := hr
  exact ⟨yemb t.bp, h_197_1 pO (q_112t C (pisp_no C.1.ok.n40 hq hp) hz), pI_bp C Z⟩
theorem c_198 (I : pI σ D k E s0 s1 n B eo en) {p : Nat} {x v : Int32} (hp : p < D.n) (hk : ykok x v = true) (hf : yfull D p x = false) : ∃ τ, Ra (d + 3) 198 [.ref 0, .int (yI p), .int x, .int v] σ (.inl (some (.int (D.kd p)))) τ ∧ (pI τ (ykp D p x v) (min 8 (k + 1)) (ypush D E) s0 s1 n B eo en ∧ pF pcl 0 0 σ τ) := by
  obtain ⟨t, rfl, C, Z⟩ := I
  obtain ⟨u, hu, C1, F⟩ := q_113 (d := d) C hp (pisp C.1.ok.n40 hp) hk hf
  exact ⟨yemb u, h_198 pO hu, pI_y C1 F Z⟩
theorem c_198t1 (I : pI σ D k E s0 s1 n B eo en) (hr : σ.2.1.1 < 900000) {p : Nat} {x v : Int32} (hp : ¬ p < D.n) (hq : p < 10000) : ∃ τ, Ra (d + 3) 198 [.ref 0, .int (yI p), .int x, .int v] σ (.inl (some (.int (-2000000097)))) τ ∧ (pI τ D k E s0 s1 n B eo en ∧ pF pcl 1 6 σ τ) := by
  obtain ⟨t, rfl, C, Z⟩ := I
  have hz : t.z.1.1 < 900000 := hr
  exact ⟨yemb t.bp, h_198_1 pO ((q_113t C hz).1 (pisp_no C.1.ok.n40 hq hp)), pI_bp C Z⟩
theorem c_198t0 (I : pI σ D k E s0 s1 n B eo en) (hr : σ.2.1.1 < 900000) {p : Nat} {x v : Int32} (hp : p < D.n) (hk : ykok x v = false) : ∃ τ, Ra (d + 3) 198 [.ref 0, .int (yI p), .int x, .int v] σ (.inl (some (.int (-2000000098)))) τ ∧ (pI τ D k E s0 s1 n B eo en ∧ pF pcl 1 6 σ τ) := by
  obtain ⟨t, rfl, C, Z⟩ := I
  have hz : t.z.1.1 < 900000 := hr
  exact ⟨yemb t.bp, h_198_0 pO ((q_113t C hz).2 (pisp C.1.ok.n40 hp) hk), pI_bp C Z⟩
theorem c_199 (I : pI σ D k E s0 s1 n B eo en) {g l : Nat} (hg : g < D.f) (hl : l < 10000) : ∃ τ, Ra (d + 3) 199 [.ref 0, .int (yI g), .int (yI l)] σ (.inl (some (.int (D.fl g)))) τ ∧ (pI τ (D.sfl (upd D.fl g (yI l))) (min 8 (k + 1)) (ypush D E) s0 s1 n B eo en ∧ pF pcl 0 0 σ τ) := by
  obtain ⟨t, rfl, C, Z⟩ := I
  obtain ⟨u, hu, C1, F⟩ := q_114 (d := d) C hg (by rw [yisf_nat C.1.ok.f6 (by have := C.1.ok.f6; omega)]; exact decide_eq_true hg) hl
  exact ⟨yemb u, h_199 pO hu, pI_y C1 F Z⟩
theorem c_199t (I : pI σ D k E s0 s1 n B eo en) (hr : σ.2.1.1 < 900000) {g : Nat} {l : Int32} (hg : ¬ g < D.f) (hq : g < 10000) : ∃ τ, Ra (d + 3) 199 [.ref 0, .int (yI g), .int l] σ (.inl (some (.int (-2000000097)))) τ ∧ (pI τ D k E s0 s1 n B eo en ∧ pF pcl 1 6 σ τ) := by
  obtain ⟨t, rfl, C, Z⟩ := I
  have hz : t.z.1.1 < 900000 := hr
  exact ⟨yemb t.bp, h_199_1 pO ((q_114t C hz).1 (by rw [yisf_nat C.1.ok.f6 hq]; exact decide_eq_false hg)), pI_bp C Z⟩
theorem c_200_0 (I : pI σ D k E s0 s1 n B eo en)  : ∃ τ, Ra (d + 5) 200 [.ref 0, .int 0] σ (.inl (some (.int (ywrongs D)))) τ ∧ (pI τ D k E (some D) s1 n B eo en ∧ pF pcl 0 0 σ τ) := by
  obtain ⟨t, rfl, C, Z⟩ := I
  obtain ⟨u, hu, C1, F⟩ := q_115_0 (d := d) C
  exact ⟨yemb u, h_200 pO hu, pI_y C1 F Z⟩
theorem c_200_1 (I : pI σ D k E s0 s1 n B eo en)  : ∃ τ, Ra (d + 5) 200 [.ref 0, .int 1] σ (.inl (some (.int (ywrongs D)))) τ ∧ (pI τ D k E s0 (some D) n B eo en ∧ pF pcl 0 0 σ τ) := by
  obtain ⟨t, rfl, C, Z⟩ := I
  obtain ⟨u, hu, C1, F⟩ := q_115_1 (d := d) C
  exact ⟨yemb u, h_200 pO hu, pI_y C1 F Z⟩
theorem c_201_0 (I : pI σ D k E s0 s1 n B eo en) {X : yD} (hX : s0 = some X) : ∃ τ, Ra (d + 5) 201 [.ref 0, .int 0] σ (.inl (some (.int (ywrongs X)))) τ ∧ (pI τ X (min 8 (k + 1)) (ypush D E) s0 s1 n B eo en ∧ pF pcl 0 0 σ τ) := by
  obtain ⟨t, rfl, C, Z⟩ := I
  obtain ⟨u, hu, C1, F⟩ := q_116_0 (d := d) C hX
  exact ⟨yemb u, h_201 pO hu, pI_y C1 F Z⟩
theorem c_201_1 (I : pI σ D k E s0 s1 n B eo en) {X : yD} (hX : s1 = some X) : ∃ τ, Ra (d + 5) 201 [.ref 0, .int 1] σ (.inl (some (.int (ywrongs X)))) τ ∧ (pI τ X (min 8 (k + 1)) (ypush D E) s0 s1 n B eo en ∧ pF pcl 0 0 σ τ) := by
  obtain ⟨t, rfl, C, Z⟩ := I
  obtain ⟨u, hu, C1, F⟩ := q_116_1 (d := d) C hX
  exact ⟨yemb u, h_201 pO hu, pI_y C1 F Z⟩
theorem c_201n_0 (I : pI σ D k E s0 s1 n B eo en) (hr : σ.2.1.1 < 900000) (hX : s0 = none) : ∃ τ, Ra (d + 5) 201 [.ref 0, .int 0] σ (.inl (some (.int (-2000000100)))) τ ∧ (pI τ D k E s0 s1 n B eo en ∧ pF pcl 1 6 σ τ) := by
  obtain ⟨t, rfl, C, Z⟩ := I
  have hz : t.z.1.1 < 900000 := hr
  exact ⟨yemb t.bp, h_201_3 pO (q_116n_0 C hX hz), pI_bp C Z⟩
theorem c_201n_1 (I : pI σ D k E s0 s1 n B eo en) (hr : σ.2.1.1 < 900000) (hX : s1 = none) : ∃ τ, Ra (d + 5) 201 [.ref 0, .int 1] σ (.inl (some (.int (-2000000100)))) τ ∧ (pI τ D k E s0 s1 n B eo en ∧ pF pcl 1 6 σ τ) := by
  obtain ⟨t, rfl, C, Z⟩ := I
  have hz : t.z.1.1 < 900000 := hr
  exact ⟨yemb t.bp, h_201_3 pO (q_116n_1 C hX hz), pI_bp C Z⟩
theorem c_201t (I : pI σ D k E s0 s1 n B eo en) (hr : σ.2.1.1 < 900000)  : ∃ τ, Ra (d + 5) 201 [.ref 0, .int 2] σ (.inl (some (.int (-2000000097)))) τ ∧ (pI τ D k E s0 s1 n B eo en ∧ pF pcl 1 6 σ τ) := by
  obtain ⟨t, rfl, C, Z⟩ := I
  have hz : t.z.1.1 < 900000 := hr
  exact ⟨yemb t.bp, h_201_1 pO (q_116t (by decide) hz), pI_bp C Z⟩
theorem c_184t (I : pI σ D k E s0 s1 n B eo en) (hr : σ.2.1.1 < 900000) (hn : n = 0) : ∃ τ, Ra (d + 18) 184 [.ref 0, .int 1] σ (.inl (some (.int (-2000000098)))) τ ∧ (pI τ D k E s0 s1 n B eo en ∧ pF pcl 1 6 σ τ) := by
  obtain ⟨t, rfl, C, Z⟩ := I
  have hz : t.z.1.1 < 900000 := hr
  exact ⟨yemb t.bp, h_184_0 pO (q_95t C (by subst hn; decide) hz), pI_bp C Z⟩
theorem c_185t (I : pI σ D k E s0 s1 n B eo en) (hr : σ.2.1.1 < 900000)  : ∃ τ, Ra (d + 23) 185 [.ref 0, .int (-1)] σ (.inl (some (.int (-2000000098)))) τ ∧ (pI τ D k E s0 s1 n B eo en ∧ pF pcl 1 6 σ τ) := by
  obtain ⟨t, rfl, C, Z⟩ := I
  have hz : t.z.1.1 < 900000 := hr
  exact ⟨yemb t.bp, h_185_0 pO (q_96t C (decide_eq_false (fun q => absurd q.1 (by decide))) hz), pI_bp C Z⟩
end

/-! ===== the law's helpers ===== -/
theorem yix01 : yix 0 1 := yix_I (n := 0) (by omega) (by omega)
section
variable {d : Nat} {t u : yT}
theorem h_226 {a0 : Int32} {v : Int32} (hm : Ra d 95 [.ref 0, .int a0] (yemb t) (.inl (some (.int v))) (yemb u)) : Ra (d + 1) 226 [.ref 0, .int a0, .ref 183] (yemb t) (.inl (some (.int 0))) (yemb (u.sL 183 0 v.toInt64)) := by
  intro Q
  show G (d + 1) 226 0 [some (.ref 0), some (.int a0), some (.ref 183), none] [] (yemb t) Q ↔ _
  simp only [s_226_0, s_226_1, s_226_2, s_226_3, s_226_4, s_226_5, s_226_6, s_226_7, s_226_8, s_226_9, s_226_10, s_226_11, s_226_12, yO_0, yA_183, yn_183, yix01, ycl0, hm, Gk_v, Gk_n, xcat_nil, xcat_i, xcat_r, xcat_l, xcat_d, Nat.zero_le, Nat.reduceAdd, Nat.reduceLeDiff, true_and, and_true, ykl_i, ykl_r, ykl_n, ykl_l]
theorem h_226_0 {a0 : Int32} (hm : Ra d 95 [.ref 0, .int a0] (yemb t) (.inr 0) (yemb u)) : Ra (d + 1) 226 [.ref 0, .int a0, .ref 183] (yemb t) (.inl (some (.int 1))) (yemb u) := by
  intro Q
  have hh : xhd 226 4 0 = some (9, 3) := by decide
  show G (d + 1) 226 0 [some (.ref 0), some (.int a0), some (.ref 183), none] [] (yemb t) Q ↔ _
  simp only [s_226_0, s_226_1, s_226_2, s_226_3, s_226_4, s_226_5, s_226_6, s_226_7, s_226_8, s_226_9, s_226_10, s_226_11, s_226_12, yO_0, hm, Gk_e, hh, Gk_v, Gk_n, xcat_nil, xcat_i, xcat_r, xcat_l, xcat_d, Nat.zero_le, Nat.reduceAdd, Nat.reduceLeDiff, true_and, and_true, ykl_i, ykl_r, ykl_n, ykl_l]
  show G (d + 1) 226 9 [some (.ref 0), some (.int a0), some (.ref 183), none] [] (yemb u) Q ↔ _
  simp only [s_226_0, s_226_1, s_226_2, s_226_3, s_226_4, s_226_5, s_226_6, s_226_7, s_226_8, s_226_9, s_226_10, s_226_11, s_226_12]
theorem h_227 {a0 : Int32} {v : Int32} (hm : Ra d 96 [.ref 0, .int a0] (yemb t) (.inl (some (.int v))) (yemb u)) : Ra (d + 1) 227 [.ref 0, .int a0, .ref 183] (yemb t) (.inl (some (.int 0))) (yemb (u.sL 183 0 v.toInt64)) := by
  intro Q
  show G (d + 1) 227 0 [some (.ref 0), some (.int a0), some (.ref 183), none] [] (yemb t) Q ↔ _
  simp only [s_227_0, s_227_1, s_227_2, s_227_3, s_227_4, s_227_5, s_227_6, s_227_7, s_227_8, s_227_9, s_227_10, s_227_11, s_227_12, yO_0, yA_183, yn_183, yix01, ycl0, hm, Gk_v, Gk_n, xcat_nil, xcat_i, xcat_r, xcat_l, xcat_d, Nat.zero_le, Nat.reduceAdd, Nat.reduceLeDiff, true_and, and_true, ykl_i, ykl_r, ykl_n, ykl_l]
theorem h_227_0 {a0 : Int32} (hm : Ra d 96 [.ref 0, .int a0] (yemb t) (.inr 0) (yemb u)) : Ra (d + 1) 227 [.ref 0, .int a0, .ref 183] (yemb t) (.inl (some (.int 1))) (yemb u) := by
  intro Q
  have hh : xhd 227 4 0 = some (9, 3) := by decide
  show G (d + 1) 227 0 [some (.ref 0), some (.int a0), some (.ref 183), none] [] (yemb t) Q ↔ _
  simp only [s_227_0, s_227_1, s_227_2, s_227_3, s_227_4, s_227_5, s_227_6, s_227_7, s_227_8, s_227_9, s_227_10, s_227_11, s_227_12, yO_0, hm, Gk_e, hh, Gk_v, Gk_n, xcat_nil, xcat_i, xcat_r, xcat_l, xcat_d, Nat.zero_le, Nat.reduceAdd, Nat.reduceLeDiff, true_and, and_true, ykl_i, ykl_r, ykl_n, ykl_l]
  show G (d + 1) 227 9 [some (.ref 0), some (.int a0), some (.ref 183), none] [] (yemb u) Q ↔ _
  simp only [s_227_0, s_227_1, s_227_2, s_227_3, s_227_4, s_227_5, s_227_6, s_227_7, s_227_8, s_227_9, s_227_10, s_227_11, s_227_12]
theorem h_228 {a0 : Int32} {v : Int32} (hm : Ra d 99 [.ref 0, .int a0] (yemb t) (.inl (some (.int v))) (yemb u)) : Ra (d + 1) 228 [.ref 0, .int a0, .ref 183] (yemb t) (.inl (some (.int 0))) (yemb (u.sL 183 0 v.toInt64)) := by
  intro Q
  show G (d + 1) 228 0 [some (.ref 0), some (.int a0), some (.ref 183), none] [] (yemb t) Q ↔ _
  simp only [s_228_0, s_228_1, s_228_2, s_228_3, s_228_4, s_228_5, s_228_6, s_228_7, s_228_8, s_228_9, s_228_10, s_228_11, s_228_12, yO_0, yA_183, yn_183, yix01, ycl0, hm, Gk_v, Gk_n, xcat_nil, xcat_i, xcat_r, xcat_l, xcat_d, Nat.zero_le, Nat.reduceAdd, Nat.reduceLeDiff, true_and, and_true, ykl_i, ykl_r, ykl_n, ykl_l]
theorem h_228_0 {a0 : Int32} (hm : Ra d 99 [.ref 0, .int a0] (yemb t) (.inr 0) (yemb u)) : Ra (d + 1) 228 [.ref 0, .int a0, .ref 183] (yemb t) (.inl (some (.int 1))) (yemb u) := by
  intro Q
  have hh : xhd 228 4 0 = some (9, 3) := by decide
  show G (d + 1) 228 0 [some (.ref 0), some (.int a0), some (.ref 183), none] [] (yemb t) Q ↔ _
  simp only [s_228_0, s_228_1, s_228_2, s_228_3, s_228_4, s_228_5, s_228_6, s_228_7, s_228_8, s_228_9, s_228_10, s_228_11, s_228_12, yO_0, hm, Gk_e, hh, Gk_v, Gk_n, xcat_nil, xcat_i, xcat_r, xcat_l, xcat_d, Nat.zero_le, Nat.reduceAdd, Nat.reduceLeDiff, true_and, and_true, ykl_i, ykl_r, ykl_n, ykl_l]
  show G (d + 1) 228 9 [some (.ref 0), some (.int a0), some (.ref 183), none] [] (yemb u) Q ↔ _
  simp only [s_228_0, s_228_1, s_228_2, s_228_3, s_228_4, s_228_5, s_228_6, s_228_7, s_228_8, s_228_9, s_228_10, s_228_11, s_228_12]
theorem h_229 {a0 a1 : Int32} {v : Int32} (hm : Ra d 100 [.ref 0, .int a0, .int a1] (yemb t) (.inl (some (.int v))) (yemb u)) : Ra (d + 1) 229 [.ref 0, .int a0, .int a1, .ref 183] (yemb t) (.inl (some (.int 0))) (yemb (u.sL 183 0 v.toInt64)) := by
  intro Q
  show G (d + 1) 229 0 [some (.ref 0), some (.int a0), some (.int a1), some (.ref 183), none] [] (yemb t) Q ↔ _
  simp only [s_229_0, s_229_1, s_229_2, s_229_3, s_229_4, s_229_5, s_229_6, s_229_7, s_229_8, s_229_9, s_229_10, s_229_11, s_229_12, s_229_13, s_229_14, s_229_15, s_229_16, yO_0, yA_183, yn_183, yix01, ycl0, hm, Gk_v, Gk_n, xcat_nil, xcat_i, xcat_r, xcat_l, xcat_d, Nat.zero_le, Nat.reduceAdd, Nat.reduceLeDiff, true_and, and_true, ykl_i, ykl_r, ykl_n, ykl_l]
theorem h_229_1 {a0 a1 : Int32} (hm : Ra d 100 [.ref 0, .int a0, .int a1] (yemb t) (.inr 1) (yemb u)) : Ra (d + 1) 229 [.ref 0, .int a0, .int a1, .ref 183] (yemb t) (.inl (some (.int 1))) (yemb u) := by
  intro Q
  have hh : xhd 229 5 1 = some (10, 4) := by decide
  show G (d + 1) 229 0 [some (.ref 0), some (.int a0), some (.int a1), some (.ref 183), none] [] (yemb t) Q ↔ _
  simp only [s_229_0, s_229_1, s_229_2, s_229_3, s_229_4, s_229_5, s_229_6, s_229_7, s_229_8, s_229_9, s_229_10, s_229_11, s_229_12, s_229_13, s_229_14, s_229_15, s_229_16, yO_0, hm, Gk_e, hh, Gk_v, Gk_n, xcat_nil, xcat_i, xcat_r, xcat_l, xcat_d, Nat.zero_le, Nat.reduceAdd, Nat.reduceLeDiff, true_and, and_true, ykl_i, ykl_r, ykl_n, ykl_l]
  show G (d + 1) 229 10 [some (.ref 0), some (.int a0), some (.int a1), some (.ref 183), none] [] (yemb u) Q ↔ _
  simp only [s_229_0, s_229_1, s_229_2, s_229_3, s_229_4, s_229_5, s_229_6, s_229_7, s_229_8, s_229_9, s_229_10, s_229_11, s_229_12, s_229_13, s_229_14, s_229_15, s_229_16]
theorem h_229_0 {a0 a1 : Int32} (hm : Ra d 100 [.ref 0, .int a0, .int a1] (yemb t) (.inr 0) (yemb u)) : Ra (d + 1) 229 [.ref 0, .int a0, .int a1, .ref 183] (yemb t) (.inl (some (.int 2))) (yemb u) := by
  intro Q
  have hh : xhd 229 5 0 = some (13, 4) := by decide
  show G (d + 1) 229 0 [some (.ref 0), some (.int a0), some (.int a1), some (.ref 183), none] [] (yemb t) Q ↔ _
  simp only [s_229_0, s_229_1, s_229_2, s_229_3, s_229_4, s_229_5, s_229_6, s_229_7, s_229_8, s_229_9, s_229_10, s_229_11, s_229_12, s_229_13, s_229_14, s_229_15, s_229_16, yO_0, hm, Gk_e, hh, Gk_v, Gk_n, xcat_nil, xcat_i, xcat_r, xcat_l, xcat_d, Nat.zero_le, Nat.reduceAdd, Nat.reduceLeDiff, true_and, and_true, ykl_i, ykl_r, ykl_n, ykl_l]
  show G (d + 1) 229 13 [some (.ref 0), some (.int a0), some (.int a1), some (.ref 183), none] [] (yemb u) Q ↔ _
  simp only [s_229_0, s_229_1, s_229_2, s_229_3, s_229_4, s_229_5, s_229_6, s_229_7, s_229_8, s_229_9, s_229_10, s_229_11, s_229_12, s_229_13, s_229_14, s_229_15, s_229_16]
theorem h_230 {a0 a1 : Int32} {v : Int32} (hm : Ra d 101 [.ref 0, .int a0, .int a1] (yemb t) (.inl (some (.int v))) (yemb u)) : Ra (d + 1) 230 [.ref 0, .int a0, .int a1, .ref 183] (yemb t) (.inl (some (.int 0))) (yemb (u.sL 183 0 v.toInt64)) := by
  intro Q
  show G (d + 1) 230 0 [some (.ref 0), some (.int a0), some (.int a1), some (.ref 183), none] [] (yemb t) Q ↔ _
  simp only [s_230_0, s_230_1, s_230_2, s_230_3, s_230_4, s_230_5, s_230_6, s_230_7, s_230_8, s_230_9, s_230_10, s_230_11, s_230_12, s_230_13, s_230_14, s_230_15, s_230_16, yO_0, yA_183, yn_183, yix01, ycl0, hm, Gk_v, Gk_n, xcat_nil, xcat_i, xcat_r, xcat_l, xcat_d, Nat.zero_le, Nat.reduceAdd, Nat.reduceLeDiff, true_and, and_true, ykl_i, ykl_r, ykl_n, ykl_l]
theorem h_230_1 {a0 a1 : Int32} (hm : Ra d 101 [.ref 0, .int a0, .int a1] (yemb t) (.inr 1) (yemb u)) : Ra (d + 1) 230 [.ref 0, .int a0, .int a1, .ref 183] (yemb t) (.inl (some (.int 1))) (yemb u) := by
  intro Q
  have hh : xhd 230 5 1 = some (10, 4) := by decide
  show G (d + 1) 230 0 [some (.ref 0), some (.int a0), some (.int a1), some (.ref 183), none] [] (yemb t) Q ↔ _
  simp only [s_230_0, s_230_1, s_230_2, s_230_3, s_230_4, s_230_5, s_230_6, s_230_7, s_230_8, s_230_9, s_230_10, s_230_11, s_230_12, s_230_13, s_230_14, s_230_15, s_230_16, yO_0, hm, Gk_e, hh, Gk_v, Gk_n, xcat_nil, xcat_i, xcat_r, xcat_l, xcat_d, Nat.zero_le, Nat.reduceAdd, Nat.reduceLeDiff, true_and, and_true, ykl_i, ykl_r, ykl_n, ykl_l]
  show G (d + 1) 230 10 [some (.ref 0), some (.int a0), some (.int a1), some (.ref 183), none] [] (yemb u) Q ↔ _
  simp only [s_230_0, s_230_1, s_230_2, s_230_3, s_230_4, s_230_5, s_230_6, s_230_7, s_230_8, s_230_9, s_230_10, s_230_11, s_230_12, s_230_13, s_230_14, s_230_15, s_230_16]
theorem h_230_0 {a0 a1 : Int32} (hm : Ra d 101 [.ref 0, .int a0, .int a1] (yemb t) (.inr 0) (yemb u)) : Ra (d + 1) 230 [.ref 0, .int a0, .int a1, .ref 183] (yemb t) (.inl (some (.int 2))) (yemb u) := by
  intro Q
  have hh : xhd 230 5 0 = some (13, 4) := by decide
  show G (d + 1) 230 0 [some (.ref 0), some (.int a0), some (.int a1), some (.ref 183), none] [] (yemb t) Q ↔ _
  simp only [s_230_0, s_230_1, s_230_2, s_230_3, s_230_4, s_230_5, s_230_6, s_230_7, s_230_8, s_230_9, s_230_10, s_230_11, s_230_12, s_230_13, s_230_14, s_230_15, s_230_16, yO_0, hm, Gk_e, hh, Gk_v, Gk_n, xcat_nil, xcat_i, xcat_r, xcat_l, xcat_d, Nat.zero_le, Nat.reduceAdd, Nat.reduceLeDiff, true_and, and_true, ykl_i, ykl_r, ykl_n, ykl_l]
  show G (d + 1) 230 13 [some (.ref 0), some (.int a0), some (.int a1), some (.ref 183), none] [] (yemb u) Q ↔ _
  simp only [s_230_0, s_230_1, s_230_2, s_230_3, s_230_4, s_230_5, s_230_6, s_230_7, s_230_8, s_230_9, s_230_10, s_230_11, s_230_12, s_230_13, s_230_14, s_230_15, s_230_16]
theorem h_231 {a0 : Int32} {v : Int32} (hm : Ra d 102 [.ref 0, .int a0] (yemb t) (.inl (some (.int v))) (yemb u)) : Ra (d + 1) 231 [.ref 0, .int a0, .ref 183] (yemb t) (.inl (some (.int 0))) (yemb (u.sL 183 0 v.toInt64)) := by
  intro Q
  show G (d + 1) 231 0 [some (.ref 0), some (.int a0), some (.ref 183), none] [] (yemb t) Q ↔ _
  simp only [s_231_0, s_231_1, s_231_2, s_231_3, s_231_4, s_231_5, s_231_6, s_231_7, s_231_8, s_231_9, s_231_10, s_231_11, s_231_12, yO_0, yA_183, yn_183, yix01, ycl0, hm, Gk_v, Gk_n, xcat_nil, xcat_i, xcat_r, xcat_l, xcat_d, Nat.zero_le, Nat.reduceAdd, Nat.reduceLeDiff, true_and, and_true, ykl_i, ykl_r, ykl_n, ykl_l]
theorem h_231_1 {a0 : Int32} (hm : Ra d 102 [.ref 0, .int a0] (yemb t) (.inr 1) (yemb u)) : Ra (d + 1) 231 [.ref 0, .int a0, .ref 183] (yemb t) (.inl (some (.int 1))) (yemb u) := by
  intro Q
  have hh : xhd 231 4 1 = some (9, 3) := by decide
  show G (d + 1) 231 0 [some (.ref 0), some (.int a0), some (.ref 183), none] [] (yemb t) Q ↔ _
  simp only [s_231_0, s_231_1, s_231_2, s_231_3, s_231_4, s_231_5, s_231_6, s_231_7, s_231_8, s_231_9, s_231_10, s_231_11, s_231_12, yO_0, hm, Gk_e, hh, Gk_v, Gk_n, xcat_nil, xcat_i, xcat_r, xcat_l, xcat_d, Nat.zero_le, Nat.reduceAdd, Nat.reduceLeDiff, true_and, and_true, ykl_i, ykl_r, ykl_n, ykl_l]
  show G (d + 1) 231 9 [some (.ref 0), some (.int a0), some (.ref 183), none] [] (yemb u) Q ↔ _
  simp only [s_231_0, s_231_1, s_231_2, s_231_3, s_231_4, s_231_5, s_231_6, s_231_7, s_231_8, s_231_9, s_231_10, s_231_11, s_231_12]
theorem h_232 {a0 : Int32} {v : Int32} (hm : Ra d 103 [.ref 0, .int a0] (yemb t) (.inl (some (.int v))) (yemb u)) : Ra (d + 1) 232 [.ref 0, .int a0, .ref 183] (yemb t) (.inl (some (.int 0))) (yemb (u.sL 183 0 v.toInt64)) := by
  intro Q
  show G (d + 1) 232 0 [some (.ref 0), some (.int a0), some (.ref 183), none] [] (yemb t) Q ↔ _
  simp only [s_232_0, s_232_1, s_232_2, s_232_3, s_232_4, s_232_5, s_232_6, s_232_7, s_232_8, s_232_9, s_232_10, s_232_11, s_232_12, yO_0, yA_183, yn_183, yix01, ycl0, hm, Gk_v, Gk_n, xcat_nil, xcat_i, xcat_r, xcat_l, xcat_d, Nat.zero_le, Nat.reduceAdd, Nat.reduceLeDiff, true_and, and_true, ykl_i, ykl_r, ykl_n, ykl_l]
theorem h_232_1 {a0 : Int32} (hm : Ra d 103 [.ref 0, .int a0] (yemb t) (.inr 1) (yemb u)) : Ra (d + 1) 232 [.ref 0, .int a0, .ref 183] (yemb t) (.inl (some (.int 1))) (yemb u) := by
  intro Q
  have hh : xhd 232 4 1 = some (9, 3) := by decide
  show G (d + 1) 232 0 [some (.ref 0), some (.int a0), some (.ref 183), none] [] (yemb t) Q ↔ _
  simp only [s_232_0, s_232_1, s_232_2, s_232_3, s_232_4, s_232_5, s_232_6, s_232_7, s_232_8, s_232_9, s_232_10, s_232_11, s_232_12, yO_0, hm, Gk_e, hh, Gk_v, Gk_n, xcat_nil, xcat_i, xcat_r, xcat_l, xcat_d, Nat.zero_le, Nat.reduceAdd, Nat.reduceLeDiff, true_and, and_true, ykl_i, ykl_r, ykl_n, ykl_l]
  show G (d + 1) 232 9 [some (.ref 0), some (.int a0), some (.ref 183), none] [] (yemb u) Q ↔ _
  simp only [s_232_0, s_232_1, s_232_2, s_232_3, s_232_4, s_232_5, s_232_6, s_232_7, s_232_8, s_232_9, s_232_10, s_232_11, s_232_12]
theorem h_233 {a0 : Int32} {v : Int32} (hm : Ra d 104 [.ref 0, .int a0] (yemb t) (.inl (some (.int v))) (yemb u)) : Ra (d + 1) 233 [.ref 0, .int a0, .ref 183] (yemb t) (.inl (some (.int 0))) (yemb (u.sL 183 0 v.toInt64)) := by
  intro Q
  show G (d + 1) 233 0 [some (.ref 0), some (.int a0), some (.ref 183), none] [] (yemb t) Q ↔ _
  simp only [s_233_0, s_233_1, s_233_2, s_233_3, s_233_4, s_233_5, s_233_6, s_233_7, s_233_8, s_233_9, s_233_10, s_233_11, s_233_12, yO_0, yA_183, yn_183, yix01, ycl0, hm, Gk_v, Gk_n, xcat_nil, xcat_i, xcat_r, xcat_l, xcat_d, Nat.zero_le, Nat.reduceAdd, Nat.reduceLeDiff, true_and, and_true, ykl_i, ykl_r, ykl_n, ykl_l]
theorem h_233_0 {a0 : Int32} (hm : Ra d 104 [.ref 0, .int a0] (yemb t) (.inr 0) (yemb u)) : Ra (d + 1) 233 [.ref 0, .int a0, .ref 183] (yemb t) (.inl (some (.int 1))) (yemb u) := by
  intro Q
  have hh : xhd 233 4 0 = some (9, 3) := by decide
  show G (d + 1) 233 0 [some (.ref 0), some (.int a0), some (.ref 183), none] [] (yemb t) Q ↔ _
  simp only [s_233_0, s_233_1, s_233_2, s_233_3, s_233_4, s_233_5, s_233_6, s_233_7, s_233_8, s_233_9, s_233_10, s_233_11, s_233_12, yO_0, hm, Gk_e, hh, Gk_v, Gk_n, xcat_nil, xcat_i, xcat_r, xcat_l, xcat_d, Nat.zero_le, Nat.reduceAdd, Nat.reduceLeDiff, true_and, and_true, ykl_i, ykl_r, ykl_n, ykl_l]
  show G (d + 1) 233 9 [some (.ref 0), some (.int a0), some (.ref 183), none] [] (yemb u) Q ↔ _
  simp only [s_233_0, s_233_1, s_233_2, s_233_3, s_233_4, s_233_5, s_233_6, s_233_7, s_233_8, s_233_9, s_233_10, s_233_11, s_233_12]
theorem h_234 {a0 : Int32} {v : Int64} (hm : Ra d 105 [.ref 0, .int a0] (yemb t) (.inl (some (.long v))) (yemb u)) : Ra (d + 1) 234 [.ref 0, .int a0, .ref 183] (yemb t) (.inl (some (.int 0))) (yemb (u.sL 183 0 v)) := by
  intro Q
  show G (d + 1) 234 0 [some (.ref 0), some (.int a0), some (.ref 183), none] [] (yemb t) Q ↔ _
  simp only [s_234_0, s_234_1, s_234_2, s_234_3, s_234_4, s_234_5, s_234_6, s_234_7, s_234_8, s_234_9, s_234_10, s_234_11, yO_0, yA_183, yn_183, yix01, ycl0, hm, Gk_v, Gk_n, xcat_nil, xcat_i, xcat_r, xcat_l, xcat_d, Nat.zero_le, Nat.reduceAdd, Nat.reduceLeDiff, true_and, and_true, ykl_i, ykl_r, ykl_n, ykl_l]
theorem h_234_0 {a0 : Int32} (hm : Ra d 105 [.ref 0, .int a0] (yemb t) (.inr 0) (yemb u)) : Ra (d + 1) 234 [.ref 0, .int a0, .ref 183] (yemb t) (.inl (some (.int 1))) (yemb u) := by
  intro Q
  have hh : xhd 234 4 0 = some (8, 3) := by decide
  show G (d + 1) 234 0 [some (.ref 0), some (.int a0), some (.ref 183), none] [] (yemb t) Q ↔ _
  simp only [s_234_0, s_234_1, s_234_2, s_234_3, s_234_4, s_234_5, s_234_6, s_234_7, s_234_8, s_234_9, s_234_10, s_234_11, yO_0, hm, Gk_e, hh, Gk_v, Gk_n, xcat_nil, xcat_i, xcat_r, xcat_l, xcat_d, Nat.zero_le, Nat.reduceAdd, Nat.reduceLeDiff, true_and, and_true, ykl_i, ykl_r, ykl_n, ykl_l]
  show G (d + 1) 234 8 [some (.ref 0), some (.int a0), some (.ref 183), none] [] (yemb u) Q ↔ _
  simp only [s_234_0, s_234_1, s_234_2, s_234_3, s_234_4, s_234_5, s_234_6, s_234_7, s_234_8, s_234_9, s_234_10, s_234_11]
theorem h_235 {a0 a1 a2 a3 a4 : Int32} {v : Int32} (hm : Ra d 108 [.ref 0, .int a0, .int a1, .int a2, .int a3, .int a4] (yemb t) (.inl (some (.int v))) (yemb u)) : Ra (d + 1) 235 [.ref 0, .int a0, .int a1, .int a2, .int a3, .int a4, .ref 183] (yemb t) (.inl (some (.int 0))) (yemb (u.sL 183 0 v.toInt64)) := by
  intro Q
  show G (d + 1) 235 0 [some (.ref 0), some (.int a0), some (.int a1), some (.int a2), some (.int a3), some (.int a4), some (.ref 183), none] [] (yemb t) Q ↔ _
  simp only [s_235_0, s_235_1, s_235_2, s_235_3, s_235_4, s_235_5, s_235_6, s_235_7, s_235_8, s_235_9, s_235_10, s_235_11, s_235_12, s_235_13, s_235_14, s_235_15, s_235_16, s_235_17, s_235_18, s_235_19, yO_0, yA_183, yn_183, yix01, ycl0, hm, Gk_v, Gk_n, xcat_nil, xcat_i, xcat_r, xcat_l, xcat_d, Nat.zero_le, Nat.reduceAdd, Nat.reduceLeDiff, true_and, and_true, ykl_i, ykl_r, ykl_n, ykl_l]
theorem h_235_1 {a0 a1 a2 a3 a4 : Int32} (hm : Ra d 108 [.ref 0, .int a0, .int a1, .int a2, .int a3, .int a4] (yemb t) (.inr 1) (yemb u)) : Ra (d + 1) 235 [.ref 0, .int a0, .int a1, .int a2, .int a3, .int a4, .ref 183] (yemb t) (.inl (some (.int 1))) (yemb u) := by
  intro Q
  have hh : xhd 235 8 1 = some (13, 7) := by decide
  show G (d + 1) 235 0 [some (.ref 0), some (.int a0), some (.int a1), some (.int a2), some (.int a3), some (.int a4), some (.ref 183), none] [] (yemb t) Q ↔ _
  simp only [s_235_0, s_235_1, s_235_2, s_235_3, s_235_4, s_235_5, s_235_6, s_235_7, s_235_8, s_235_9, s_235_10, s_235_11, s_235_12, s_235_13, s_235_14, s_235_15, s_235_16, s_235_17, s_235_18, s_235_19, yO_0, hm, Gk_e, hh, Gk_v, Gk_n, xcat_nil, xcat_i, xcat_r, xcat_l, xcat_d, Nat.zero_le, Nat.reduceAdd, Nat.reduceLeDiff, true_and, and_true, ykl_i, ykl_r, ykl_n, ykl_l]
  show G (d + 1) 235 13 [some (.ref 0), some (.int a0), some (.int a1), some (.int a2), some (.int a3), some (.int a4), some (.ref 183), none] [] (yemb u) Q ↔ _
  simp only [s_235_0, s_235_1, s_235_2, s_235_3, s_235_4, s_235_5, s_235_6, s_235_7, s_235_8, s_235_9, s_235_10, s_235_11, s_235_12, s_235_13, s_235_14, s_235_15, s_235_16, s_235_17, s_235_18, s_235_19]
theorem h_235_0 {a0 a1 a2 a3 a4 : Int32} (hm : Ra d 108 [.ref 0, .int a0, .int a1, .int a2, .int a3, .int a4] (yemb t) (.inr 0) (yemb u)) : Ra (d + 1) 235 [.ref 0, .int a0, .int a1, .int a2, .int a3, .int a4, .ref 183] (yemb t) (.inl (some (.int 2))) (yemb u) := by
  intro Q
  have hh : xhd 235 8 0 = some (16, 7) := by decide
  show G (d + 1) 235 0 [some (.ref 0), some (.int a0), some (.int a1), some (.int a2), some (.int a3), some (.int a4), some (.ref 183), none] [] (yemb t) Q ↔ _
  simp only [s_235_0, s_235_1, s_235_2, s_235_3, s_235_4, s_235_5, s_235_6, s_235_7, s_235_8, s_235_9, s_235_10, s_235_11, s_235_12, s_235_13, s_235_14, s_235_15, s_235_16, s_235_17, s_235_18, s_235_19, yO_0, hm, Gk_e, hh, Gk_v, Gk_n, xcat_nil, xcat_i, xcat_r, xcat_l, xcat_d, Nat.zero_le, Nat.reduceAdd, Nat.reduceLeDiff, true_and, and_true, ykl_i, ykl_r, ykl_n, ykl_l]
  show G (d + 1) 235 16 [some (.ref 0), some (.int a0), some (.int a1), some (.int a2), some (.int a3), some (.int a4), some (.ref 183), none] [] (yemb u) Q ↔ _
  simp only [s_235_0, s_235_1, s_235_2, s_235_3, s_235_4, s_235_5, s_235_6, s_235_7, s_235_8, s_235_9, s_235_10, s_235_11, s_235_12, s_235_13, s_235_14, s_235_15, s_235_16, s_235_17, s_235_18, s_235_19]
theorem h_236 {a0 : Int32} {v : Int32} (hm : Ra d 109 [.ref 0, .int a0] (yemb t) (.inl (some (.int v))) (yemb u)) : Ra (d + 1) 236 [.ref 0, .int a0, .ref 183] (yemb t) (.inl (some (.int 0))) (yemb (u.sL 183 0 v.toInt64)) := by
  intro Q
  show G (d + 1) 236 0 [some (.ref 0), some (.int a0), some (.ref 183), none] [] (yemb t) Q ↔ _
  simp only [s_236_0, s_236_1, s_236_2, s_236_3, s_236_4, s_236_5, s_236_6, s_236_7, s_236_8, s_236_9, s_236_10, s_236_11, s_236_12, yO_0, yA_183, yn_183, yix01, ycl0, hm, Gk_v, Gk_n, xcat_nil, xcat_i, xcat_r, xcat_l, xcat_d, Nat.zero_le, Nat.reduceAdd, Nat.reduceLeDiff, true_and, and_true, ykl_i, ykl_r, ykl_n, ykl_l]
theorem h_236_0 {a0 : Int32} (hm : Ra d 109 [.ref 0, .int a0] (yemb t) (.inr 0) (yemb u)) : Ra (d + 1) 236 [.ref 0, .int a0, .ref 183] (yemb t) (.inl (some (.int 1))) (yemb u) := by
  intro Q
  have hh : xhd 236 4 0 = some (9, 3) := by decide
  show G (d + 1) 236 0 [some (.ref 0), some (.int a0), some (.ref 183), none] [] (yemb t) Q ↔ _
  simp only [s_236_0, s_236_1, s_236_2, s_236_3, s_236_4, s_236_5, s_236_6, s_236_7, s_236_8, s_236_9, s_236_10, s_236_11, s_236_12, yO_0, hm, Gk_e, hh, Gk_v, Gk_n, xcat_nil, xcat_i, xcat_r, xcat_l, xcat_d, Nat.zero_le, Nat.reduceAdd, Nat.reduceLeDiff, true_and, and_true, ykl_i, ykl_r, ykl_n, ykl_l]
  show G (d + 1) 236 9 [some (.ref 0), some (.int a0), some (.ref 183), none] [] (yemb u) Q ↔ _
  simp only [s_236_0, s_236_1, s_236_2, s_236_3, s_236_4, s_236_5, s_236_6, s_236_7, s_236_8, s_236_9, s_236_10, s_236_11, s_236_12]
theorem h_237 {a0 : Int32} {v : Int32} (hm : Ra d 110 [.ref 0, .int a0] (yemb t) (.inl (some (.int v))) (yemb u)) : Ra (d + 1) 237 [.ref 0, .int a0, .ref 183] (yemb t) (.inl (some (.int 0))) (yemb (u.sL 183 0 v.toInt64)) := by
  intro Q
  show G (d + 1) 237 0 [some (.ref 0), some (.int a0), some (.ref 183), none] [] (yemb t) Q ↔ _
  simp only [s_237_0, s_237_1, s_237_2, s_237_3, s_237_4, s_237_5, s_237_6, s_237_7, s_237_8, s_237_9, s_237_10, s_237_11, s_237_12, yO_0, yA_183, yn_183, yix01, ycl0, hm, Gk_v, Gk_n, xcat_nil, xcat_i, xcat_r, xcat_l, xcat_d, Nat.zero_le, Nat.reduceAdd, Nat.reduceLeDiff, true_and, and_true, ykl_i, ykl_r, ykl_n, ykl_l]
theorem h_237_0 {a0 : Int32} (hm : Ra d 110 [.ref 0, .int a0] (yemb t) (.inr 0) (yemb u)) : Ra (d + 1) 237 [.ref 0, .int a0, .ref 183] (yemb t) (.inl (some (.int 1))) (yemb u) := by
  intro Q
  have hh : xhd 237 4 0 = some (9, 3) := by decide
  show G (d + 1) 237 0 [some (.ref 0), some (.int a0), some (.ref 183), none] [] (yemb t) Q ↔ _
  simp only [s_237_0, s_237_1, s_237_2, s_237_3, s_237_4, s_237_5, s_237_6, s_237_7, s_237_8, s_237_9, s_237_10, s_237_11, s_237_12, yO_0, hm, Gk_e, hh, Gk_v, Gk_n, xcat_nil, xcat_i, xcat_r, xcat_l, xcat_d, Nat.zero_le, Nat.reduceAdd, Nat.reduceLeDiff, true_and, and_true, ykl_i, ykl_r, ykl_n, ykl_l]
  show G (d + 1) 237 9 [some (.ref 0), some (.int a0), some (.ref 183), none] [] (yemb u) Q ↔ _
  simp only [s_237_0, s_237_1, s_237_2, s_237_3, s_237_4, s_237_5, s_237_6, s_237_7, s_237_8, s_237_9, s_237_10, s_237_11, s_237_12]
theorem h_238 {a0 : Int32} {v : Int32} (hm : Ra d 111 [.ref 0, .int a0] (yemb t) (.inl (some (.int v))) (yemb u)) : Ra (d + 1) 238 [.ref 0, .int a0, .ref 183] (yemb t) (.inl (some (.int 0))) (yemb (u.sL 183 0 v.toInt64)) := by
  intro Q
  show G (d + 1) 238 0 [some (.ref 0), some (.int a0), some (.ref 183), none] [] (yemb t) Q ↔ _
  simp only [s_238_0, s_238_1, s_238_2, s_238_3, s_238_4, s_238_5, s_238_6, s_238_7, s_238_8, s_238_9, s_238_10, s_238_11, s_238_12, yO_0, yA_183, yn_183, yix01, ycl0, hm, Gk_v, Gk_n, xcat_nil, xcat_i, xcat_r, xcat_l, xcat_d, Nat.zero_le, Nat.reduceAdd, Nat.reduceLeDiff, true_and, and_true, ykl_i, ykl_r, ykl_n, ykl_l]
theorem h_238_0 {a0 : Int32} (hm : Ra d 111 [.ref 0, .int a0] (yemb t) (.inr 0) (yemb u)) : Ra (d + 1) 238 [.ref 0, .int a0, .ref 183] (yemb t) (.inl (some (.int 1))) (yemb u) := by
  intro Q
  have hh : xhd 238 4 0 = some (9, 3) := by decide
  show G (d + 1) 238 0 [some (.ref 0), some (.int a0), some (.ref 183), none] [] (yemb t) Q ↔ _
  simp only [s_238_0, s_238_1, s_238_2, s_238_3, s_238_4, s_238_5, s_238_6, s_238_7, s_238_8, s_238_9, s_238_10, s_238_11, s_238_12, yO_0, hm, Gk_e, hh, Gk_v, Gk_n, xcat_nil, xcat_i, xcat_r, xcat_l, xcat_d, Nat.zero_le, Nat.reduceAdd, Nat.reduceLeDiff, true_and, and_true, ykl_i, ykl_r, ykl_n, ykl_l]
  show G (d + 1) 238 9 [some (.ref 0), some (.int a0), some (.ref 183), none] [] (yemb u) Q ↔ _
  simp only [s_238_0, s_238_1, s_238_2, s_238_3, s_238_4, s_238_5, s_238_6, s_238_7, s_238_8, s_238_9, s_238_10, s_238_11, s_238_12]
theorem h_239 {a0 a1 : Int32} {v : Bool} (hm : Ra d 112 [.ref 0, .int a0, .int a1] (yemb t) (.inl (some (.int (yb v)))) (yemb u)) : Ra (d + 1) 239 [.ref 0, .int a0, .int a1, .ref 183] (yemb t) (.inl (some (.int 0))) (yemb (u.sL 183 0 (if v = true then 1 else 0))) := by
  intro Q
  show G (d + 1) 239 0 [some (.ref 0), some (.int a0), some (.int a1), some (.ref 183), none] [] (yemb t) Q ↔ _
  cases v
  · simp only [s_239_0, s_239_1, s_239_2, s_239_3, s_239_4, s_239_5, s_239_6, s_239_7, s_239_8, s_239_9, s_239_10, s_239_11, s_239_12, s_239_13, s_239_14, s_239_15, s_239_16, yO_0, yA_183, yn_183, yix01, ycl0, hm, ifb, Bool.false_eq_true, if_false, Gk_v, Gk_n, xcat_nil, xcat_i, xcat_r, xcat_l, xcat_d, Nat.zero_le, Nat.reduceAdd, Nat.reduceLeDiff, true_and, and_true, ykl_i, ykl_r, ykl_n, ykl_l]
  · simp only [s_239_0, s_239_1, s_239_2, s_239_3, s_239_4, s_239_5, s_239_6, s_239_7, s_239_8, s_239_9, s_239_10, s_239_11, s_239_12, s_239_13, s_239_14, s_239_15, s_239_16, yO_0, yA_183, yn_183, yix01, ycl0, hm, ifb, if_true, Gk_v, Gk_n, xcat_nil, xcat_i, xcat_r, xcat_l, xcat_d, Nat.zero_le, Nat.reduceAdd, Nat.reduceLeDiff, true_and, and_true, ykl_i, ykl_r, ykl_n, ykl_l]
theorem h_239_1 {a0 a1 : Int32} (hm : Ra d 112 [.ref 0, .int a0, .int a1] (yemb t) (.inr 1) (yemb u)) : Ra (d + 1) 239 [.ref 0, .int a0, .int a1, .ref 183] (yemb t) (.inl (some (.int 1))) (yemb u) := by
  intro Q
  have hh : xhd 239 5 1 = some (13, 4) := by decide
  show G (d + 1) 239 0 [some (.ref 0), some (.int a0), some (.int a1), some (.ref 183), none] [] (yemb t) Q ↔ _
  simp only [s_239_0, s_239_1, s_239_2, s_239_3, s_239_4, s_239_5, s_239_6, s_239_7, s_239_8, s_239_9, s_239_10, s_239_11, s_239_12, s_239_13, s_239_14, s_239_15, s_239_16, yO_0, hm, Gk_e, hh, Gk_v, Gk_n, xcat_nil, xcat_i, xcat_r, xcat_l, xcat_d, Nat.zero_le, Nat.reduceAdd, Nat.reduceLeDiff, true_and, and_true, ykl_i, ykl_r, ykl_n, ykl_l]
  show G (d + 1) 239 13 [some (.ref 0), some (.int a0), some (.int a1), some (.ref 183), none] [] (yemb u) Q ↔ _
  simp only [s_239_0, s_239_1, s_239_2, s_239_3, s_239_4, s_239_5, s_239_6, s_239_7, s_239_8, s_239_9, s_239_10, s_239_11, s_239_12, s_239_13, s_239_14, s_239_15, s_239_16]
theorem h_240 {a0 a1 a2 : Int32} {v : Int32} (hm : Ra d 113 [.ref 0, .int a0, .int a1, .int a2] (yemb t) (.inl (some (.int v))) (yemb u)) : Ra (d + 1) 240 [.ref 0, .int a0, .int a1, .int a2, .ref 183] (yemb t) (.inl (some (.int 0))) (yemb (u.sL 183 0 v.toInt64)) := by
  intro Q
  show G (d + 1) 240 0 [some (.ref 0), some (.int a0), some (.int a1), some (.int a2), some (.ref 183), none] [] (yemb t) Q ↔ _
  simp only [s_240_0, s_240_1, s_240_2, s_240_3, s_240_4, s_240_5, s_240_6, s_240_7, s_240_8, s_240_9, s_240_10, s_240_11, s_240_12, s_240_13, s_240_14, s_240_15, s_240_16, s_240_17, s_240_18, s_240_19, s_240_20, yO_0, yA_183, yn_183, yix01, ycl0, hm, Gk_v, Gk_n, xcat_nil, xcat_i, xcat_r, xcat_l, xcat_d, Nat.zero_le, Nat.reduceAdd, Nat.reduceLeDiff, true_and, and_true, ykl_i, ykl_r, ykl_n, ykl_l]
theorem h_240_1 {a0 a1 a2 : Int32} (hm : Ra d 113 [.ref 0, .int a0, .int a1, .int a2] (yemb t) (.inr 1) (yemb u)) : Ra (d + 1) 240 [.ref 0, .int a0, .int a1, .int a2, .ref 183] (yemb t) (.inl (some (.int 1))) (yemb u) := by
  intro Q
  have hh : xhd 240 6 1 = some (11, 5) := by decide
  show G (d + 1) 240 0 [some (.ref 0), some (.int a0), some (.int a1), some (.int a2), some (.ref 183), none] [] (yemb t) Q ↔ _
  simp only [s_240_0, s_240_1, s_240_2, s_240_3, s_240_4, s_240_5, s_240_6, s_240_7, s_240_8, s_240_9, s_240_10, s_240_11, s_240_12, s_240_13, s_240_14, s_240_15, s_240_16, s_240_17, s_240_18, s_240_19, s_240_20, yO_0, hm, Gk_e, hh, Gk_v, Gk_n, xcat_nil, xcat_i, xcat_r, xcat_l, xcat_d, Nat.zero_le, Nat.reduceAdd, Nat.reduceLeDiff, true_and, and_true, ykl_i, ykl_r, ykl_n, ykl_l]
  show G (d + 1) 240 11 [some (.ref 0), some (.int a0), some (.int a1), some (.int a2), some (.ref 183), none] [] (yemb u) Q ↔ _
  simp only [s_240_0, s_240_1, s_240_2, s_240_3, s_240_4, s_240_5, s_240_6, s_240_7, s_240_8, s_240_9, s_240_10, s_240_11, s_240_12, s_240_13, s_240_14, s_240_15, s_240_16, s_240_17, s_240_18, s_240_19, s_240_20]
theorem h_240_0 {a0 a1 a2 : Int32} (hm : Ra d 113 [.ref 0, .int a0, .int a1, .int a2] (yemb t) (.inr 0) (yemb u)) : Ra (d + 1) 240 [.ref 0, .int a0, .int a1, .int a2, .ref 183] (yemb t) (.inl (some (.int 2))) (yemb u) := by
  intro Q
  have hh : xhd 240 6 0 = some (14, 5) := by decide
  show G (d + 1) 240 0 [some (.ref 0), some (.int a0), some (.int a1), some (.int a2), some (.ref 183), none] [] (yemb t) Q ↔ _
  simp only [s_240_0, s_240_1, s_240_2, s_240_3, s_240_4, s_240_5, s_240_6, s_240_7, s_240_8, s_240_9, s_240_10, s_240_11, s_240_12, s_240_13, s_240_14, s_240_15, s_240_16, s_240_17, s_240_18, s_240_19, s_240_20, yO_0, hm, Gk_e, hh, Gk_v, Gk_n, xcat_nil, xcat_i, xcat_r, xcat_l, xcat_d, Nat.zero_le, Nat.reduceAdd, Nat.reduceLeDiff, true_and, and_true, ykl_i, ykl_r, ykl_n, ykl_l]
  show G (d + 1) 240 14 [some (.ref 0), some (.int a0), some (.int a1), some (.int a2), some (.ref 183), none] [] (yemb u) Q ↔ _
  simp only [s_240_0, s_240_1, s_240_2, s_240_3, s_240_4, s_240_5, s_240_6, s_240_7, s_240_8, s_240_9, s_240_10, s_240_11, s_240_12, s_240_13, s_240_14, s_240_15, s_240_16, s_240_17, s_240_18, s_240_19, s_240_20]
theorem h_240_2 {a0 a1 a2 : Int32} (hm : Ra d 113 [.ref 0, .int a0, .int a1, .int a2] (yemb t) (.inr 2) (yemb u)) : Ra (d + 1) 240 [.ref 0, .int a0, .int a1, .int a2, .ref 183] (yemb t) (.inl (some (.int 3))) (yemb u) := by
  intro Q
  have hh : xhd 240 6 2 = some (17, 5) := by decide
  show G (d + 1) 240 0 [some (.ref 0), some (.int a0), some (.int a1), some (.int a2), some (.ref 183), none] [] (yemb t) Q ↔ _
  simp only [s_240_0, s_240_1, s_240_2, s_240_3, s_240_4, s_240_5, s_240_6, s_240_7, s_240_8, s_240_9, s_240_10, s_240_11, s_240_12, s_240_13, s_240_14, s_240_15, s_240_16, s_240_17, s_240_18, s_240_19, s_240_20, yO_0, hm, Gk_e, hh, Gk_v, Gk_n, xcat_nil, xcat_i, xcat_r, xcat_l, xcat_d, Nat.zero_le, Nat.reduceAdd, Nat.reduceLeDiff, true_and, and_true, ykl_i, ykl_r, ykl_n, ykl_l]
  show G (d + 1) 240 17 [some (.ref 0), some (.int a0), some (.int a1), some (.int a2), some (.ref 183), none] [] (yemb u) Q ↔ _
  simp only [s_240_0, s_240_1, s_240_2, s_240_3, s_240_4, s_240_5, s_240_6, s_240_7, s_240_8, s_240_9, s_240_10, s_240_11, s_240_12, s_240_13, s_240_14, s_240_15, s_240_16, s_240_17, s_240_18, s_240_19, s_240_20]
theorem h_241 {a0 a1 : Int32} {v : Int32} (hm : Ra d 114 [.ref 0, .int a0, .int a1] (yemb t) (.inl (some (.int v))) (yemb u)) : Ra (d + 1) 241 [.ref 0, .int a0, .int a1, .ref 183] (yemb t) (.inl (some (.int 0))) (yemb (u.sL 183 0 v.toInt64)) := by
  intro Q
  show G (d + 1) 241 0 [some (.ref 0), some (.int a0), some (.int a1), some (.ref 183), none] [] (yemb t) Q ↔ _
  simp only [s_241_0, s_241_1, s_241_2, s_241_3, s_241_4, s_241_5, s_241_6, s_241_7, s_241_8, s_241_9, s_241_10, s_241_11, s_241_12, s_241_13, s_241_14, s_241_15, s_241_16, yO_0, yA_183, yn_183, yix01, ycl0, hm, Gk_v, Gk_n, xcat_nil, xcat_i, xcat_r, xcat_l, xcat_d, Nat.zero_le, Nat.reduceAdd, Nat.reduceLeDiff, true_and, and_true, ykl_i, ykl_r, ykl_n, ykl_l]
theorem h_241_1 {a0 a1 : Int32} (hm : Ra d 114 [.ref 0, .int a0, .int a1] (yemb t) (.inr 1) (yemb u)) : Ra (d + 1) 241 [.ref 0, .int a0, .int a1, .ref 183] (yemb t) (.inl (some (.int 1))) (yemb u) := by
  intro Q
  have hh : xhd 241 5 1 = some (10, 4) := by decide
  show G (d + 1) 241 0 [some (.ref 0), some (.int a0), some (.int a1), some (.ref 183), none] [] (yemb t) Q ↔ _
  simp only [s_241_0, s_241_1, s_241_2, s_241_3, s_241_4, s_241_5, s_241_6, s_241_7, s_241_8, s_241_9, s_241_10, s_241_11, s_241_12, s_241_13, s_241_14, s_241_15, s_241_16, yO_0, hm, Gk_e, hh, Gk_v, Gk_n, xcat_nil, xcat_i, xcat_r, xcat_l, xcat_d, Nat.zero_le, Nat.reduceAdd, Nat.reduceLeDiff, true_and, and_true, ykl_i, ykl_r, ykl_n, ykl_l]
  show G (d + 1) 241 10 [some (.ref 0), some (.int a0), some (.int a1), some (.ref 183), none] [] (yemb u) Q ↔ _
  simp only [s_241_0, s_241_1, s_241_2, s_241_3, s_241_4, s_241_5, s_241_6, s_241_7, s_241_8, s_241_9, s_241_10, s_241_11, s_241_12, s_241_13, s_241_14, s_241_15, s_241_16]
theorem h_241_0 {a0 a1 : Int32} (hm : Ra d 114 [.ref 0, .int a0, .int a1] (yemb t) (.inr 0) (yemb u)) : Ra (d + 1) 241 [.ref 0, .int a0, .int a1, .ref 183] (yemb t) (.inl (some (.int 2))) (yemb u) := by
  intro Q
  have hh : xhd 241 5 0 = some (13, 4) := by decide
  show G (d + 1) 241 0 [some (.ref 0), some (.int a0), some (.int a1), some (.ref 183), none] [] (yemb t) Q ↔ _
  simp only [s_241_0, s_241_1, s_241_2, s_241_3, s_241_4, s_241_5, s_241_6, s_241_7, s_241_8, s_241_9, s_241_10, s_241_11, s_241_12, s_241_13, s_241_14, s_241_15, s_241_16, yO_0, hm, Gk_e, hh, Gk_v, Gk_n, xcat_nil, xcat_i, xcat_r, xcat_l, xcat_d, Nat.zero_le, Nat.reduceAdd, Nat.reduceLeDiff, true_and, and_true, ykl_i, ykl_r, ykl_n, ykl_l]
  show G (d + 1) 241 13 [some (.ref 0), some (.int a0), some (.int a1), some (.ref 183), none] [] (yemb u) Q ↔ _
  simp only [s_241_0, s_241_1, s_241_2, s_241_3, s_241_4, s_241_5, s_241_6, s_241_7, s_241_8, s_241_9, s_241_10, s_241_11, s_241_12, s_241_13, s_241_14, s_241_15, s_241_16]
theorem h_242 {a0 : Int32} {v : Int32} (hm : Ra d 115 [.ref 0, .int a0] (yemb t) (.inl (some (.int v))) (yemb u)) : Ra (d + 1) 242 [.ref 0, .int a0, .ref 183] (yemb t) (.inl (some (.int 0))) (yemb (u.sL 183 0 v.toInt64)) := by
  intro Q
  show G (d + 1) 242 0 [some (.ref 0), some (.int a0), some (.ref 183), none] [] (yemb t) Q ↔ _
  simp only [s_242_0, s_242_1, s_242_2, s_242_3, s_242_4, s_242_5, s_242_6, s_242_7, s_242_8, s_242_9, s_242_10, s_242_11, s_242_12, yO_0, yA_183, yn_183, yix01, ycl0, hm, Gk_v, Gk_n, xcat_nil, xcat_i, xcat_r, xcat_l, xcat_d, Nat.zero_le, Nat.reduceAdd, Nat.reduceLeDiff, true_and, and_true, ykl_i, ykl_r, ykl_n, ykl_l]
theorem h_242_1 {a0 : Int32} (hm : Ra d 115 [.ref 0, .int a0] (yemb t) (.inr 1) (yemb u)) : Ra (d + 1) 242 [.ref 0, .int a0, .ref 183] (yemb t) (.inl (some (.int 1))) (yemb u) := by
  intro Q
  have hh : xhd 242 4 1 = some (9, 3) := by decide
  show G (d + 1) 242 0 [some (.ref 0), some (.int a0), some (.ref 183), none] [] (yemb t) Q ↔ _
  simp only [s_242_0, s_242_1, s_242_2, s_242_3, s_242_4, s_242_5, s_242_6, s_242_7, s_242_8, s_242_9, s_242_10, s_242_11, s_242_12, yO_0, hm, Gk_e, hh, Gk_v, Gk_n, xcat_nil, xcat_i, xcat_r, xcat_l, xcat_d, Nat.zero_le, Nat.reduceAdd, Nat.reduceLeDiff, true_and, and_true, ykl_i, ykl_r, ykl_n, ykl_l]
  show G (d + 1) 242 9 [some (.ref 0), some (.int a0), some (.ref 183), none] [] (yemb u) Q ↔ _
  simp only [s_242_0, s_242_1, s_242_2, s_242_3, s_242_4, s_242_5, s_242_6, s_242_7, s_242_8, s_242_9, s_242_10, s_242_11, s_242_12]
theorem h_243 {a0 : Int32} {v : Int32} (hm : Ra d 116 [.ref 0, .int a0] (yemb t) (.inl (some (.int v))) (yemb u)) : Ra (d + 1) 243 [.ref 0, .int a0, .ref 183] (yemb t) (.inl (some (.int 0))) (yemb (u.sL 183 0 v.toInt64)) := by
  intro Q
  show G (d + 1) 243 0 [some (.ref 0), some (.int a0), some (.ref 183), none] [] (yemb t) Q ↔ _
  simp only [s_243_0, s_243_1, s_243_2, s_243_3, s_243_4, s_243_5, s_243_6, s_243_7, s_243_8, s_243_9, s_243_10, s_243_11, s_243_12, s_243_13, s_243_14, s_243_15, yO_0, yA_183, yn_183, yix01, ycl0, hm, Gk_v, Gk_n, xcat_nil, xcat_i, xcat_r, xcat_l, xcat_d, Nat.zero_le, Nat.reduceAdd, Nat.reduceLeDiff, true_and, and_true, ykl_i, ykl_r, ykl_n, ykl_l]
theorem h_243_1 {a0 : Int32} (hm : Ra d 116 [.ref 0, .int a0] (yemb t) (.inr 1) (yemb u)) : Ra (d + 1) 243 [.ref 0, .int a0, .ref 183] (yemb t) (.inl (some (.int 1))) (yemb u) := by
  intro Q
  have hh : xhd 243 4 1 = some (9, 3) := by decide
  show G (d + 1) 243 0 [some (.ref 0), some (.int a0), some (.ref 183), none] [] (yemb t) Q ↔ _
  simp only [s_243_0, s_243_1, s_243_2, s_243_3, s_243_4, s_243_5, s_243_6, s_243_7, s_243_8, s_243_9, s_243_10, s_243_11, s_243_12, s_243_13, s_243_14, s_243_15, yO_0, hm, Gk_e, hh, Gk_v, Gk_n, xcat_nil, xcat_i, xcat_r, xcat_l, xcat_d, Nat.zero_le, Nat.reduceAdd, Nat.reduceLeDiff, true_and, and_true, ykl_i, ykl_r, ykl_n, ykl_l]
  show G (d + 1) 243 9 [some (.ref 0), some (.int a0), some (.ref 183), none] [] (yemb u) Q ↔ _
  simp only [s_243_0, s_243_1, s_243_2, s_243_3, s_243_4, s_243_5, s_243_6, s_243_7, s_243_8, s_243_9, s_243_10, s_243_11, s_243_12, s_243_13, s_243_14, s_243_15]
theorem h_243_3 {a0 : Int32} (hm : Ra d 116 [.ref 0, .int a0] (yemb t) (.inr 3) (yemb u)) : Ra (d + 1) 243 [.ref 0, .int a0, .ref 183] (yemb t) (.inl (some (.int 2))) (yemb u) := by
  intro Q
  have hh : xhd 243 4 3 = some (12, 3) := by decide
  show G (d + 1) 243 0 [some (.ref 0), some (.int a0), some (.ref 183), none] [] (yemb t) Q ↔ _
  simp only [s_243_0, s_243_1, s_243_2, s_243_3, s_243_4, s_243_5, s_243_6, s_243_7, s_243_8, s_243_9, s_243_10, s_243_11, s_243_12, s_243_13, s_243_14, s_243_15, yO_0, hm, Gk_e, hh, Gk_v, Gk_n, xcat_nil, xcat_i, xcat_r, xcat_l, xcat_d, Nat.zero_le, Nat.reduceAdd, Nat.reduceLeDiff, true_and, and_true, ykl_i, ykl_r, ykl_n, ykl_l]
  show G (d + 1) 243 12 [some (.ref 0), some (.int a0), some (.ref 183), none] [] (yemb u) Q ↔ _
  simp only [s_243_0, s_243_1, s_243_2, s_243_3, s_243_4, s_243_5, s_243_6, s_243_7, s_243_8, s_243_9, s_243_10, s_243_11, s_243_12, s_243_13, s_243_14, s_243_15]
end

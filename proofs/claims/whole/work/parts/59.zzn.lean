/-! ===== the law's loop ===== -/
theorem ysub6 {L i : Nat} (hL : L ≤ 3072) (hi : i ≤ 3072) : yI L - 6 < yI i ↔ L < i + 6 := by
  by_cases h : 6 ≤ L
  · have e : yI L - 6 = yI (L - 6) := yI_sub h
    rw [e, yI_lt (by omega) (by omega)]
    omega
  · refine ⟨fun _ => by omega, fun _ => ?_⟩
    have h0 : (0 : Int32) ≤ yI i := Int32.not_lt.mp (yI_nneg (by omega))
    have h1 : yI L - 6 < 0 := by
      rcases (by omega : L = 0 ∨ L = 1 ∨ L = 2 ∨ L = 3 ∨ L = 4 ∨ L = 5) with h | h | h | h | h | h <;> subst h <;> decide
    exact Int32.lt_of_lt_of_le h1 h0
section
variable {d : Nat} {t : yT} {i : Nat}
abbrev yLp (i : Nat) (l5 l6 l7 l8 : Option Value) : xL := [some (.ref 1000000), some (.ref 0), some (.ref 160), some (.ref 183), some (.int (yI i)), l5, l6, l7, l8]
theorem l_244s (I : yInv t) (hz : t.z.1.1 < 898000) (hi : i + 6 ≤ t.z.2.1) (hL : t.z.2.1 ≤ 3072) (l5 l6 l7 l8 : Option Value) : ∃ (u : yT) (l5' l6' l7' l8' : Option Value), Gg (d + 100) 244 13 (yLp i l5 l6 l7 l8) [] (yemb t) 13 (yLp (i + 6) l5' l6' l7' l8') [] (yemb u) ∧ yStep t u := by
  have j0 : yix (yI i) t.z.2.1 := yix_I (by omega) (by omega)
  have c0 : (yI i).toNatClampNeg = i := yI_clamp (by omega)
  have e6 : yI i + 6 = yI (i + 6) := yI_add
  have hc : ¬ yI t.z.2.1 - 6 < yI i := fun h => by
    have := (ysub6 hL (by omega)).mp h
    omega
  have hc' : ¬ Int32.ofNat t.z.2.1 - 6 < yI i := hc
  have back : ∀ (u : yT) (l5 l6 l7 l8 : Option Value) Q, G (d + 100) 244 879 (yLp i l5 l6 l7 l8) [] (yemb u) Q ↔ G (d + 100) 244 13 (yLp (i + 6) l5 l6 l7 l8) [] (yemb u) Q := by
    intro u l5 l6 l7 l8 Q
    simp only [yLp, s_244_879, s_244_880, e6, Gk_v, Gk_n, xcat_nil, xcat_i, xcat_r, xcat_l, xcat_d, Nat.zero_le, Nat.reduceAdd, Nat.reduceLeDiff, true_and, and_true, ykl_i, ykl_r, ykl_n, ykl_l]
  have go : ∀ P, yCase (d + 100) P t i → (∀ Q, G (d + 100) 244 13 (yLp i l5 l6 l7 l8) [] (yemb t) Q ↔ G (d + 100) 244 P (yLp i l5 l6 l7 l8) [] (yemb t) Q) → ∃ (u : yT) (l5' l6' l7' l8' : Option Value), Gg (d + 100) 244 13 (yLp i l5 l6 l7 l8) [] (yemb t) 13 (yLp (i + 6) l5' l6' l7' l8') [] (yemb u) ∧ yStep t u := by
    intro P hP hg
    obtain ⟨u, m5, m6, m7, m8, hu, hs⟩ := hP l5 l6 l7 l8
    exact ⟨u, m5, m6, m7, m8, fun Q => (hg Q).trans ((hu Q).trans (back u m5 m6 m7 m8 Q)), hs⟩
  obtain ⟨n, hn, hx⟩ := ykey (t.z.2.2 i)
  rcases (by omega : n = 0 ∨ n = 1 ∨ n = 2 ∨ n = 3 ∨ n = 4 ∨ n = 5 ∨ n = 6 ∨ n = 7 ∨ n = 8 ∨ n = 9 ∨ n = 10 ∨ n = 11 ∨ n = 12 ∨ n = 13 ∨ n = 14 ∨ n = 15 ∨ n = 16 ∨ n = 17 ∨ n = 18 ∨ n = 19 ∨ n = 20 ∨ n = 21 ∨ n = 22 ∨ n = 23 ∨ n = 24 ∨ 25 ≤ n) with h | h | h | h | h | h | h | h | h | h | h | h | h | h | h | h | h | h | h | h | h | h | h | h | h | h
  · subst h
    have hx' : t.z.2.2 i &&& 31 = 0 := hx
    refine go 25 (c_94 I hz hi hL) (fun Q => ?_)
    rw [s_244_13]
    simp only [yLp, s_244_14, gs_scl f_244_15, s_244_16, s_244_17, s_244_18, s_244_19, s_244_20, gs_scr f_244_21, s_244_22, s_244_23, j0, c0, hc', if_false, hx', s_244_24_0, Gk_v, Gk_n, xcat_nil, xcat_i, xcat_r, xcat_l, xcat_d, Nat.zero_le, Nat.reduceAdd, Nat.reduceLeDiff, true_and, and_true, ykl_i, ykl_r, ykl_n, ykl_l]
  · subst h
    have hx' : t.z.2.2 i &&& 31 = 1 := hx
    refine go 82 (c_226 I hz hi hL) (fun Q => ?_)
    rw [s_244_13]
    simp only [yLp, s_244_14, gs_scl f_244_15, s_244_16, s_244_17, s_244_18, s_244_19, s_244_20, gs_scr f_244_21, s_244_22, s_244_23, j0, c0, hc', if_false, hx', s_244_24_1, Gk_v, Gk_n, xcat_nil, xcat_i, xcat_r, xcat_l, xcat_d, Nat.zero_le, Nat.reduceAdd, Nat.reduceLeDiff, true_and, and_true, ykl_i, ykl_r, ykl_n, ykl_l]
  · subst h
    have hx' : t.z.2.2 i &&& 31 = 2 := hx
    refine go 117 (c_227 I hz hi hL) (fun Q => ?_)
    rw [s_244_13]
    simp only [yLp, s_244_14, gs_scl f_244_15, s_244_16, s_244_17, s_244_18, s_244_19, s_244_20, gs_scr f_244_21, s_244_22, s_244_23, j0, c0, hc', if_false, hx', s_244_24_2, Gk_v, Gk_n, xcat_nil, xcat_i, xcat_r, xcat_l, xcat_d, Nat.zero_le, Nat.reduceAdd, Nat.reduceLeDiff, true_and, and_true, ykl_i, ykl_r, ykl_n, ykl_l]
  · subst h
    have hx' : t.z.2.2 i &&& 31 = 3 := hx
    refine go 152 (c_97 I hz hi hL) (fun Q => ?_)
    rw [s_244_13]
    simp only [yLp, s_244_14, gs_scl f_244_15, s_244_16, s_244_17, s_244_18, s_244_19, s_244_20, gs_scr f_244_21, s_244_22, s_244_23, j0, c0, hc', if_false, hx', s_244_24_3, Gk_v, Gk_n, xcat_nil, xcat_i, xcat_r, xcat_l, xcat_d, Nat.zero_le, Nat.reduceAdd, Nat.reduceLeDiff, true_and, and_true, ykl_i, ykl_r, ykl_n, ykl_l]
  · subst h
    have hx' : t.z.2.2 i &&& 31 = 4 := hx
    refine go 159 (c_98 I hz hi hL) (fun Q => ?_)
    rw [s_244_13]
    simp only [yLp, s_244_14, gs_scl f_244_15, s_244_16, s_244_17, s_244_18, s_244_19, s_244_20, gs_scr f_244_21, s_244_22, s_244_23, j0, c0, hc', if_false, hx', s_244_24_4, Gk_v, Gk_n, xcat_nil, xcat_i, xcat_r, xcat_l, xcat_d, Nat.zero_le, Nat.reduceAdd, Nat.reduceLeDiff, true_and, and_true, ykl_i, ykl_r, ykl_n, ykl_l]
  · subst h
    have hx' : t.z.2.2 i &&& 31 = 5 := hx
    refine go 166 (c_228 I hz hi hL) (fun Q => ?_)
    rw [s_244_13]
    simp only [yLp, s_244_14, gs_scl f_244_15, s_244_16, s_244_17, s_244_18, s_244_19, s_244_20, gs_scr f_244_21, s_244_22, s_244_23, j0, c0, hc', if_false, hx', s_244_24_5, Gk_v, Gk_n, xcat_nil, xcat_i, xcat_r, xcat_l, xcat_d, Nat.zero_le, Nat.reduceAdd, Nat.reduceLeDiff, true_and, and_true, ykl_i, ykl_r, ykl_n, ykl_l]
  · subst h
    have hx' : t.z.2.2 i &&& 31 = 6 := hx
    refine go 201 (c_229 I hz hi hL) (fun Q => ?_)
    rw [s_244_13]
    simp only [yLp, s_244_14, gs_scl f_244_15, s_244_16, s_244_17, s_244_18, s_244_19, s_244_20, gs_scr f_244_21, s_244_22, s_244_23, j0, c0, hc', if_false, hx', s_244_24_6, Gk_v, Gk_n, xcat_nil, xcat_i, xcat_r, xcat_l, xcat_d, Nat.zero_le, Nat.reduceAdd, Nat.reduceLeDiff, true_and, and_true, ykl_i, ykl_r, ykl_n, ykl_l]
  · subst h
    have hx' : t.z.2.2 i &&& 31 = 7 := hx
    refine go 246 (c_230 I hz hi hL) (fun Q => ?_)
    rw [s_244_13]
    simp only [yLp, s_244_14, gs_scl f_244_15, s_244_16, s_244_17, s_244_18, s_244_19, s_244_20, gs_scr f_244_21, s_244_22, s_244_23, j0, c0, hc', if_false, hx', s_244_24_7, Gk_v, Gk_n, xcat_nil, xcat_i, xcat_r, xcat_l, xcat_d, Nat.zero_le, Nat.reduceAdd, Nat.reduceLeDiff, true_and, and_true, ykl_i, ykl_r, ykl_n, ykl_l]
  · subst h
    have hx' : t.z.2.2 i &&& 31 = 8 := hx
    refine go 291 (c_231 I hz hi hL) (fun Q => ?_)
    rw [s_244_13]
    simp only [yLp, s_244_14, gs_scl f_244_15, s_244_16, s_244_17, s_244_18, s_244_19, s_244_20, gs_scr f_244_21, s_244_22, s_244_23, j0, c0, hc', if_false, hx', s_244_24_8, Gk_v, Gk_n, xcat_nil, xcat_i, xcat_r, xcat_l, xcat_d, Nat.zero_le, Nat.reduceAdd, Nat.reduceLeDiff, true_and, and_true, ykl_i, ykl_r, ykl_n, ykl_l]
  · subst h
    have hx' : t.z.2.2 i &&& 31 = 9 := hx
    refine go 326 (c_232 I hz hi hL) (fun Q => ?_)
    rw [s_244_13]
    simp only [yLp, s_244_14, gs_scl f_244_15, s_244_16, s_244_17, s_244_18, s_244_19, s_244_20, gs_scr f_244_21, s_244_22, s_244_23, j0, c0, hc', if_false, hx', s_244_24_9, Gk_v, Gk_n, xcat_nil, xcat_i, xcat_r, xcat_l, xcat_d, Nat.zero_le, Nat.reduceAdd, Nat.reduceLeDiff, true_and, and_true, ykl_i, ykl_r, ykl_n, ykl_l]
  · subst h
    have hx' : t.z.2.2 i &&& 31 = 10 := hx
    refine go 361 (c_233 I hz hi hL) (fun Q => ?_)
    rw [s_244_13]
    simp only [yLp, s_244_14, gs_scl f_244_15, s_244_16, s_244_17, s_244_18, s_244_19, s_244_20, gs_scr f_244_21, s_244_22, s_244_23, j0, c0, hc', if_false, hx', s_244_24_10, Gk_v, Gk_n, xcat_nil, xcat_i, xcat_r, xcat_l, xcat_d, Nat.zero_le, Nat.reduceAdd, Nat.reduceLeDiff, true_and, and_true, ykl_i, ykl_r, ykl_n, ykl_l]
  · subst h
    have hx' : t.z.2.2 i &&& 31 = 11 := hx
    refine go 396 (c_234 I hz hi hL) (fun Q => ?_)
    rw [s_244_13]
    simp only [yLp, s_244_14, gs_scl f_244_15, s_244_16, s_244_17, s_244_18, s_244_19, s_244_20, gs_scr f_244_21, s_244_22, s_244_23, j0, c0, hc', if_false, hx', s_244_24_11, Gk_v, Gk_n, xcat_nil, xcat_i, xcat_r, xcat_l, xcat_d, Nat.zero_le, Nat.reduceAdd, Nat.reduceLeDiff, true_and, and_true, ykl_i, ykl_r, ykl_n, ykl_l]
  · subst h
    have hx' : t.z.2.2 i &&& 31 = 12 := hx
    refine go 430 (c_106 I hz hi hL) (fun Q => ?_)
    rw [s_244_13]
    simp only [yLp, s_244_14, gs_scl f_244_15, s_244_16, s_244_17, s_244_18, s_244_19, s_244_20, gs_scr f_244_21, s_244_22, s_244_23, j0, c0, hc', if_false, hx', s_244_24_12, Gk_v, Gk_n, xcat_nil, xcat_i, xcat_r, xcat_l, xcat_d, Nat.zero_le, Nat.reduceAdd, Nat.reduceLeDiff, true_and, and_true, ykl_i, ykl_r, ykl_n, ykl_l]
  · subst h
    have hx' : t.z.2.2 i &&& 31 = 13 := hx
    refine go 437 (c_107 I hz hi hL) (fun Q => ?_)
    rw [s_244_13]
    simp only [yLp, s_244_14, gs_scl f_244_15, s_244_16, s_244_17, s_244_18, s_244_19, s_244_20, gs_scr f_244_21, s_244_22, s_244_23, j0, c0, hc', if_false, hx', s_244_24_13, Gk_v, Gk_n, xcat_nil, xcat_i, xcat_r, xcat_l, xcat_d, Nat.zero_le, Nat.reduceAdd, Nat.reduceLeDiff, true_and, and_true, ykl_i, ykl_r, ykl_n, ykl_l]
  · subst h
    have hx' : t.z.2.2 i &&& 31 = 14 := hx
    refine go 458 (c_235 I hz hi hL) (fun Q => ?_)
    rw [s_244_13]
    simp only [yLp, s_244_14, gs_scl f_244_15, s_244_16, s_244_17, s_244_18, s_244_19, s_244_20, gs_scr f_244_21, s_244_22, s_244_23, j0, c0, hc', if_false, hx', s_244_24_14, Gk_v, Gk_n, xcat_nil, xcat_i, xcat_r, xcat_l, xcat_d, Nat.zero_le, Nat.reduceAdd, Nat.reduceLeDiff, true_and, and_true, ykl_i, ykl_r, ykl_n, ykl_l]
  · subst h
    have hx' : t.z.2.2 i &&& 31 = 15 := hx
    refine go 533 (c_236 I hz hi hL) (fun Q => ?_)
    rw [s_244_13]
    simp only [yLp, s_244_14, gs_scl f_244_15, s_244_16, s_244_17, s_244_18, s_244_19, s_244_20, gs_scr f_244_21, s_244_22, s_244_23, j0, c0, hc', if_false, hx', s_244_24_15, Gk_v, Gk_n, xcat_nil, xcat_i, xcat_r, xcat_l, xcat_d, Nat.zero_le, Nat.reduceAdd, Nat.reduceLeDiff, true_and, and_true, ykl_i, ykl_r, ykl_n, ykl_l]
  · subst h
    have hx' : t.z.2.2 i &&& 31 = 16 := hx
    refine go 568 (c_237 I hz hi hL) (fun Q => ?_)
    rw [s_244_13]
    simp only [yLp, s_244_14, gs_scl f_244_15, s_244_16, s_244_17, s_244_18, s_244_19, s_244_20, gs_scr f_244_21, s_244_22, s_244_23, j0, c0, hc', if_false, hx', s_244_24_16, Gk_v, Gk_n, xcat_nil, xcat_i, xcat_r, xcat_l, xcat_d, Nat.zero_le, Nat.reduceAdd, Nat.reduceLeDiff, true_and, and_true, ykl_i, ykl_r, ykl_n, ykl_l]
  · subst h
    have hx' : t.z.2.2 i &&& 31 = 17 := hx
    refine go 603 (c_238 I hz hi hL) (fun Q => ?_)
    rw [s_244_13]
    simp only [yLp, s_244_14, gs_scl f_244_15, s_244_16, s_244_17, s_244_18, s_244_19, s_244_20, gs_scr f_244_21, s_244_22, s_244_23, j0, c0, hc', if_false, hx', s_244_24_17, Gk_v, Gk_n, xcat_nil, xcat_i, xcat_r, xcat_l, xcat_d, Nat.zero_le, Nat.reduceAdd, Nat.reduceLeDiff, true_and, and_true, ykl_i, ykl_r, ykl_n, ykl_l]
  · subst h
    have hx' : t.z.2.2 i &&& 31 = 18 := hx
    refine go 638 (c_239 I hz hi hL) (fun Q => ?_)
    rw [s_244_13]
    simp only [yLp, s_244_14, gs_scl f_244_15, s_244_16, s_244_17, s_244_18, s_244_19, s_244_20, gs_scr f_244_21, s_244_22, s_244_23, j0, c0, hc', if_false, hx', s_244_24_18, Gk_v, Gk_n, xcat_nil, xcat_i, xcat_r, xcat_l, xcat_d, Nat.zero_le, Nat.reduceAdd, Nat.reduceLeDiff, true_and, and_true, ykl_i, ykl_r, ykl_n, ykl_l]
  · subst h
    have hx' : t.z.2.2 i &&& 31 = 19 := hx
    refine go 694 (c_240 I hz hi hL) (fun Q => ?_)
    rw [s_244_13]
    simp only [yLp, s_244_14, gs_scl f_244_15, s_244_16, s_244_17, s_244_18, s_244_19, s_244_20, gs_scr f_244_21, s_244_22, s_244_23, j0, c0, hc', if_false, hx', s_244_24_19, Gk_v, Gk_n, xcat_nil, xcat_i, xcat_r, xcat_l, xcat_d, Nat.zero_le, Nat.reduceAdd, Nat.reduceLeDiff, true_and, and_true, ykl_i, ykl_r, ykl_n, ykl_l]
  · subst h
    have hx' : t.z.2.2 i &&& 31 = 20 := hx
    refine go 749 (c_241 I hz hi hL) (fun Q => ?_)
    rw [s_244_13]
    simp only [yLp, s_244_14, gs_scl f_244_15, s_244_16, s_244_17, s_244_18, s_244_19, s_244_20, gs_scr f_244_21, s_244_22, s_244_23, j0, c0, hc', if_false, hx', s_244_24_20, Gk_v, Gk_n, xcat_nil, xcat_i, xcat_r, xcat_l, xcat_d, Nat.zero_le, Nat.reduceAdd, Nat.reduceLeDiff, true_and, and_true, ykl_i, ykl_r, ykl_n, ykl_l]
  · subst h
    have hx' : t.z.2.2 i &&& 31 = 21 := hx
    refine go 794 (c_242 I hz hi hL) (fun Q => ?_)
    rw [s_244_13]
    simp only [yLp, s_244_14, gs_scl f_244_15, s_244_16, s_244_17, s_244_18, s_244_19, s_244_20, gs_scr f_244_21, s_244_22, s_244_23, j0, c0, hc', if_false, hx', s_244_24_21, Gk_v, Gk_n, xcat_nil, xcat_i, xcat_r, xcat_l, xcat_d, Nat.zero_le, Nat.reduceAdd, Nat.reduceLeDiff, true_and, and_true, ykl_i, ykl_r, ykl_n, ykl_l]
  · subst h
    have hx' : t.z.2.2 i &&& 31 = 22 := hx
    refine go 829 (c_243 I hz hi hL) (fun Q => ?_)
    rw [s_244_13]
    simp only [yLp, s_244_14, gs_scl f_244_15, s_244_16, s_244_17, s_244_18, s_244_19, s_244_20, gs_scr f_244_21, s_244_22, s_244_23, j0, c0, hc', if_false, hx', s_244_24_22, Gk_v, Gk_n, xcat_nil, xcat_i, xcat_r, xcat_l, xcat_d, Nat.zero_le, Nat.reduceAdd, Nat.reduceLeDiff, true_and, and_true, ykl_i, ykl_r, ykl_n, ykl_l]
  · subst h
    have hx' : t.z.2.2 i &&& 31 = 23 := hx
    refine go 864 (c_117 I hz hi hL) (fun Q => ?_)
    rw [s_244_13]
    simp only [yLp, s_244_14, gs_scl f_244_15, s_244_16, s_244_17, s_244_18, s_244_19, s_244_20, gs_scr f_244_21, s_244_22, s_244_23, j0, c0, hc', if_false, hx', s_244_24_23, Gk_v, Gk_n, xcat_nil, xcat_i, xcat_r, xcat_l, xcat_d, Nat.zero_le, Nat.reduceAdd, Nat.reduceLeDiff, true_and, and_true, ykl_i, ykl_r, ykl_n, ykl_l]
  · subst h
    have hx' : t.z.2.2 i &&& 31 = 24 := hx
    refine go 871 (c_118 I hz hi hL) (fun Q => ?_)
    rw [s_244_13]
    simp only [yLp, s_244_14, gs_scl f_244_15, s_244_16, s_244_17, s_244_18, s_244_19, s_244_20, gs_scr f_244_21, s_244_22, s_244_23, j0, c0, hc', if_false, hx', s_244_24_24, Gk_v, Gk_n, xcat_nil, xcat_i, xcat_r, xcat_l, xcat_d, Nat.zero_le, Nat.reduceAdd, Nat.reduceLeDiff, true_and, and_true, ykl_i, ykl_r, ykl_n, ykl_l]
  · have hd : (yI n).toInt < 0 ∨ 24 < (yI n).toInt := by
      rcases (by omega : n = 25 ∨ n = 26 ∨ n = 27 ∨ n = 28 ∨ n = 29 ∨ n = 30 ∨ n = 31) with h | h | h | h | h | h | h <;> subst h <;> decide
    refine ⟨t, l5, l6, l7, l8, fun Q => ?_, I, ⟨Nat.le_add_right _ _, Nat.le_add_right _ _⟩, rfl⟩
    refine Iff.trans ?_ (back t l5 l6 l7 l8 Q)
    rw [s_244_13]
    simp only [yLp, s_244_14, gs_scl f_244_15, s_244_16, s_244_17, s_244_18, s_244_19, s_244_20, gs_scr f_244_21, s_244_22, s_244_23, j0, c0, hc', if_false, hx, s_244_24_d hd, Gk_v, Gk_n, xcat_nil, xcat_i, xcat_r, xcat_l, xcat_d, Nat.zero_le, Nat.reduceAdd, Nat.reduceLeDiff, true_and, and_true, ykl_i, ykl_r, ykl_n, ykl_l]
theorem l_244 : ∀ m (t : yT) (i : Nat) (l5 l6 l7 l8 : Option Value), yInv t → t.z.2.1 ≤ 3072 → i ≤ 3072 → t.z.2.1 < i + 6 * m + 6 → t.z.1.1 + 3 * m < 898000 → ∃ u, Ga (d + 100) 244 13 (yLp i l5 l6 l7 l8) [] (yemb t) (.inl (some (.int 1))) (yemb u) ∧ (u.z.1.1 ≤ t.z.1.1 + 3 * m ∧ u.z.1.2 ≤ t.z.1.2 + 700 * m) := by
  have fin : ∀ (t : yT) (i : Nat) (l5 l6 l7 l8 : Option Value), t.z.2.1 ≤ 3072 → i ≤ 3072 → t.z.2.1 < i + 6 → Ga (d + 100) 244 13 (yLp i l5 l6 l7 l8) [] (yemb t) (.inl (some (.int 1))) (yemb t) := by
    intro t i l5 l6 l7 l8 hL hi hh Q
    have hc : Int32.ofNat t.z.2.1 - 6 < yI i := (ysub6 hL hi).mpr hh
    rw [s_244_13]
    simp only [yLp, s_244_14, gs_scl f_244_15, s_244_16, s_244_17, s_244_18, s_244_19, s_244_20, gs_scr f_244_21, s_244_22, s_244_23, hc, if_true, s_244_881, s_244_882, ybo_1, Gk_v, Gk_n, xcat_nil, xcat_i, xcat_r, xcat_l, xcat_d, Nat.zero_le, Nat.reduceAdd, Nat.reduceLeDiff, true_and, and_true, ykl_i, ykl_r, ykl_n, ykl_l]
  intro m
  induction m with
  | zero =>
    intro t i l5 l6 l7 l8 I hL hi hm hz
    exact ⟨t, fin t i l5 l6 l7 l8 hL hi (by omega), by omega, by omega⟩
  | succ m ih =>
    intro t i l5 l6 l7 l8 I hL hi hm hz
    by_cases hh : t.z.2.1 < i + 6
    · exact ⟨t, fin t i l5 l6 l7 l8 hL hi hh, by omega, by omega⟩
    · obtain ⟨u, m5, m6, m7, m8, hu, Iu, ⟨z1, z2⟩, z3⟩ := l_244s (d := d) I (by omega) (show i + 6 ≤ t.z.2.1 by omega) hL l5 l6 l7 l8
      have hL' : u.z.2.1 ≤ 3072 := by rw [z3]; exact hL
      have hm' : u.z.2.1 < (i + 6) + 6 * m + 6 := by rw [z3]; omega
      obtain ⟨w, hw, w1, w2⟩ := ih u (i + 6) m5 m6 m7 m8 Iu hL' (by omega) hm' (by omega)
      exact ⟨w, fun Q => (hu Q).trans (hw Q), by omega, by omega⟩
end

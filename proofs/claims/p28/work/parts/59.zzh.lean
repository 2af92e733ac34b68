/-! ===== one command of a script, done by the class ===== -/
theorem ystop_le {T : yTb} {D : yD} {done i : Nat} : ystop T D done i ≤ 3 := by
  unfold ystop yfault
  split
  · decide
  · split
    · split
      · decide
      · split <;> decide
    · split
      · split <;> decide
      · split
        · split <;> decide
        · decide
section
variable {d : Nat} {t : yT} {T : yTb} {cN i : Nat} {D : yD} {done : Nat}
theorem yPe_s8 {v : Int32} (P : yPe t T cN D done) : yPe (t.s1 34 8 v) T cN D done := ⟨yW_fr P.1 (yFr_s1 (P := fun a => a = 34) rfl) (fun a h1 h2 (h : a = 34) => by omega), yGc_h P.2.1 (yKh_s (Or.inr rfl)), by rw [ys1_upd, yupd_ne (by decide)]; exact P.2.2⟩
theorem g_18 (P : yPe t T cN D done) (hi : i < cN) (hc : cN ≤ 60) (hK : T.1 i < 5) (hN : ∀ j, j < ynb (T.1 i) → T.2.1 i j < 10000) (hd : done ≤ 200) : Gg (d + 6) 18 0 [some (.ref 34), some (.int (yI i)), none] [] (yemb t) 11 [some (.ref 34), some (.int (yI i)), none] [] (yemb (t.s1 34 8 (yI (ystop T D done i)))) := by
  intro Q
  have g19 := m_19 (d := d + 3) P hi hc hK hN
  have h7 := P.2.2
  unfold ystop
  by_cases h : done = 200
  · have c1 : ¬ yI done < 200 := fun h' => absurd ((yI_lt (m := 200) (by omega) (by decide)).mp h') (by omega)
    rw [if_pos h]
    simp only [s_18_0, s_18_1, s_18_2, s_18_3, s_18_4, s_18_5, s_18_6, s_18_7, s_18_8, s_18_9, s_18_10, s_18_12, s_18_13, s_18_14, s_18_15, s_18_16, s_18_17, s_18_18, s_18_19, s_18_20, s_18_21, s_18_22, s_18_23, s_18_24_0, s_18_24_1, s_18_24_2, s_18_24_3, s_18_24_d, s_18_25, s_18_26, s_18_27, s_18_28, s_18_29, s_18_30, s_18_31, s_18_32, s_18_33, s_18_34, s_18_35, s_18_36, s_18_37, s_18_38, s_18_39, s_18_40, s_18_41, s_18_42, s_18_43, s_18_44, s_18_45, s_18_46, s_18_47, s_18_48, s_18_49, s_18_50, s_18_51, s_18_52, s_18_53, s_18_54, s_18_55, s_18_56, s_18_57, s_18_57i, s_18_58, s_18_59, s_18_60, s_18_61, s_18_62, s_18_63, s_18_64, s_18_65, s_18_66, s_18_66i, s_18_67, s_18_68, s_18_69, s_18_70, s_18_71, s_18_72, s_18_73, s_18_74, s_18_75, s_18_76, s_18_77, s_18_78, s_18_79, s_18_80, s_18_81, s_18_82, s_18_83, s_18_84, s_18_85, s_18_86, s_18_87, s_18_88, s_18_89, s_18_90, s_18_91, s_18_91i, s_18_92, s_18_93, s_18_94, s_18_95, s_18_96, s_18_97, yO_34, h7, c1, if_false, Gk_v, Gk_n, xcat_nil, xcat_i, xcat_r, xcat_l, xcat_d, Nat.zero_le, Nat.reduceAdd, Nat.reduceLeDiff, true_and, and_true, ykl_i, ykl_r, ykl_n, ykl_l]
    exact Iff.rfl
  · have c1 : yI done < 200 := (yI_lt (m := 200) (by omega) (by decide)).mpr (by omega)
    rw [if_neg h]
    simp only [s_18_0, s_18_1, s_18_2, s_18_3, s_18_4, s_18_5, s_18_6, s_18_7, s_18_8, s_18_9, s_18_10, s_18_12, s_18_13, s_18_14, s_18_15, s_18_16, s_18_17, s_18_18, s_18_19, s_18_20, s_18_21, s_18_22, s_18_23, s_18_24_0, s_18_24_1, s_18_24_2, s_18_24_3, s_18_24_d, s_18_25, s_18_26, s_18_27, s_18_28, s_18_29, s_18_30, s_18_31, s_18_32, s_18_33, s_18_34, s_18_35, s_18_36, s_18_37, s_18_38, s_18_39, s_18_40, s_18_41, s_18_42, s_18_43, s_18_44, s_18_45, s_18_46, s_18_47, s_18_48, s_18_49, s_18_50, s_18_51, s_18_52, s_18_53, s_18_54, s_18_55, s_18_56, s_18_57, s_18_57i, s_18_58, s_18_59, s_18_60, s_18_61, s_18_62, s_18_63, s_18_64, s_18_65, s_18_66, s_18_66i, s_18_67, s_18_68, s_18_69, s_18_70, s_18_71, s_18_72, s_18_73, s_18_74, s_18_75, s_18_76, s_18_77, s_18_78, s_18_79, s_18_80, s_18_81, s_18_82, s_18_83, s_18_84, s_18_85, s_18_86, s_18_87, s_18_88, s_18_89, s_18_90, s_18_91, s_18_91i, s_18_92, s_18_93, s_18_94, s_18_95, s_18_96, s_18_97, yO_34, h7, c1, if_true, g19, Gk_v, Gk_n, xcat_nil, xcat_i, xcat_r, xcat_l, xcat_d, Nat.zero_le, Nat.reduceAdd, Nat.reduceLeDiff, true_and, and_true, ykl_i, ykl_r, ykl_n, ykl_l]
theorem m_18f (P : yPe t T cN D done) (hi : i < cN) (hc : cN ≤ 60) (hK : T.1 i < 5) (hN : ∀ j, j < ynb (T.1 i) → T.2.1 i j < 10000) (hd : done ≤ 200) (h : ystop T D done i ≠ 0) : ∃ u, Ra (d + 6) 18 [.ref 34, .int (yI i)] (yemb t) (.inl (some (.int 0))) (yemb u) ∧ (yPe u T cN D done ∧ (u.A 34 8 = yI (ystop T D done i) ∧ yKh t u)) := by
  have g := g_18 (d := d) P hi hc hK hN hd
  have h3 := ystop_le (T := T) (D := D) (done := done) (i := i)
  have e8 : (t.s1 34 8 (yI (ystop T D done i))).A 34 8 = yI (ystop T D done i) := ys1_same
  have cn : ¬ yI (ystop T D done i) = 0 := fun h' => h ((yI_inj (m := 0) (by omega) (by decide)).mp h')
  refine ⟨t.s1 34 8 (yI (ystop T D done i)), fun Q => ?_, yPe_s8 P, e8, yKh_s (Or.inr rfl)⟩
  show G (d + 6) 18 0 [some (.ref 34), some (.int (yI i)), none] [] (yemb t) Q ↔ _
  refine (g Q).trans ?_
  simp only [s_18_0, s_18_1, s_18_2, s_18_3, s_18_4, s_18_5, s_18_6, s_18_7, s_18_8, s_18_9, s_18_10, s_18_11, s_18_12, s_18_13, s_18_14, s_18_15, s_18_16, s_18_17, s_18_18, s_18_19, s_18_20, s_18_21, s_18_22, s_18_23, s_18_24_0, s_18_24_1, s_18_24_2, s_18_24_3, s_18_24_d, s_18_25, s_18_26, s_18_27, s_18_28, s_18_29, s_18_30, s_18_31, s_18_32, s_18_33, s_18_34, s_18_35, s_18_36, s_18_37, s_18_38, s_18_39, s_18_40, s_18_41, s_18_42, s_18_43, s_18_44, s_18_45, s_18_46, s_18_47, s_18_48, s_18_49, s_18_50, s_18_51, s_18_52, s_18_53, s_18_54, s_18_55, s_18_56, s_18_57, s_18_57i, s_18_58, s_18_59, s_18_60, s_18_61, s_18_62, s_18_63, s_18_64, s_18_65, s_18_66, s_18_66i, s_18_67, s_18_68, s_18_69, s_18_70, s_18_71, s_18_72, s_18_73, s_18_74, s_18_75, s_18_76, s_18_77, s_18_78, s_18_79, s_18_80, s_18_81, s_18_82, s_18_83, s_18_84, s_18_85, s_18_86, s_18_87, s_18_88, s_18_89, s_18_90, s_18_91, s_18_91i, s_18_92, s_18_93, s_18_94, s_18_95, s_18_96, s_18_97, yO_34, e8, cn, ne_eq, not_false_eq_true, if_true, if_false, ybo_0, Gk_v, Gk_n, xcat_nil, xcat_i, xcat_r, xcat_l, xcat_d, Nat.zero_le, Nat.reduceAdd, Nat.reduceLeDiff, true_and, and_true, ykl_i, ykl_r, ykl_n, ykl_l]
theorem m_18t (P : yPe t T cN D done) (hi : i < cN) (hc : cN ≤ 60) (hK : T.1 i < 5) (hN : ∀ j, j < ynb (T.1 i) → T.2.1 i j < 10000) (hd : done ≤ 200) (h : ystop T D done i = 0) : ∃ u, Ra (d + 6) 18 [.ref 34, .int (yI i)] (yemb t) (.inl (some (.int 1))) (yemb u) ∧ (yPe u T cN (ydo T D i) (done + 1) ∧ (u.A 34 8 = 0 ∧ yKh t u)) := by
  have g := g_18 (d := d) P hi hc hK hN hd
  have hd2 : ¬ done = 200 := fun h' => by
    unfold ystop at h
    rw [if_pos h'] at h
    exact absurd h (by decide)
  have h0 : yfault T D i = 0 := by
    unfold ystop at h
    rw [if_neg hd2] at h
    exact h
  rw [h] at g
  have P1 := yPe_s8 (v := yI 0) P
  have K1 : yKh t (t.s1 34 8 (yI 0)) := yKh_s (Or.inr rfl)
  have e8 : (t.s1 34 8 (yI 0)).A 34 8 = 0 := ys1_same
  generalize t.s1 34 8 (yI 0) = t1 at *
  -- it is enough to come to the count
  suffices S : ∃ u, (∃ l, Gg (d + 6) 18 11 [some (.ref 34), some (.int (yI i)), none] [] (yemb t1) 90 [some (.ref 34), some (.int (yI i)), l] [] (yemb u)) ∧ (yW u 7 (ydo T D i) ∧ yFr (fun a => 3 ≤ a ∧ a ≤ 17) t1 u) by
    obtain ⟨u, ⟨l, hu⟩, Wu, Fu⟩ := S
    have K2 : yKh t1 u := yKh_f Fu (fun a h => h)
    have u7 : u.A 34 7 = yI done := by rw [Fu.A (by decide)]; exact P1.2.2
    have e7 : yI done + 1 = yI (done + 1) := yI_add
    have Fe : yFr (fun a => a = 34) u (u.s1 34 7 (yI (done + 1))) := yFr_s1 rfl
    have K3 : yKh u (u.s1 34 7 (yI (done + 1))) := yKh_s (Or.inl rfl)
    refine ⟨u.s1 34 7 (yI (done + 1)), fun Q => ?_, ⟨yW_fr Wu Fe (fun a h1 h2 (h : a = 34) => by omega), yGc_h P1.2.1 (yKh_tr K2 K3), ys1_same⟩, ?_, yKh_tr K1 (yKh_tr K2 K3)⟩
    · show G (d + 6) 18 0 [some (.ref 34), some (.int (yI i)), none] [] (yemb t) Q ↔ _
      refine (g Q).trans ((hu Q).trans ?_)
      rw [s_18_90]
      simp only [s_18_0, s_18_1, s_18_2, s_18_3, s_18_4, s_18_5, s_18_6, s_18_7, s_18_8, s_18_9, s_18_10, s_18_11, s_18_12, s_18_13, s_18_14, s_18_15, s_18_16, s_18_17, s_18_18, s_18_19, s_18_20, s_18_21, s_18_22, s_18_23, s_18_24_0, s_18_24_1, s_18_24_2, s_18_24_3, s_18_24_d, s_18_25, s_18_26, s_18_27, s_18_28, s_18_29, s_18_30, s_18_31, s_18_32, s_18_33, s_18_34, s_18_35, s_18_36, s_18_37, s_18_38, s_18_39, s_18_40, s_18_41, s_18_42, s_18_43, s_18_44, s_18_45, s_18_46, s_18_47, s_18_48, s_18_49, s_18_50, s_18_51, s_18_52, s_18_53, s_18_54, s_18_55, s_18_56, s_18_57, s_18_57i, s_18_58, s_18_59, s_18_60, s_18_61, s_18_62, s_18_63, s_18_64, s_18_65, s_18_66, s_18_66i, s_18_67, s_18_68, s_18_69, s_18_70, s_18_71, s_18_72, s_18_73, s_18_74, s_18_75, s_18_76, s_18_77, s_18_78, s_18_79, s_18_80, s_18_81, s_18_82, s_18_83, s_18_84, s_18_85, s_18_86, s_18_87, s_18_88, s_18_89, s_18_91, s_18_91i, s_18_92, s_18_93, s_18_94, s_18_95, s_18_96, s_18_97, yO_34, u7, e7, ybo_1, Gk_v, Gk_n, xcat_nil, xcat_i, xcat_r, xcat_l, xcat_d, Nat.zero_le, Nat.reduceAdd, Nat.reduceLeDiff, true_and, and_true, ykl_i, ykl_r, ykl_n, ykl_l]
    · rw [ys1_upd, yupd_ne (by decide), Fu.A (by decide)]
      exact e8
  clear g K1 P
  obtain ⟨W, Gt, -⟩ := P1
  have hn40 := W.ok.n40
  obtain ⟨g1, g2, -⟩ := Gt i (Nat.zero_le _) hi
  have e5 : (5 : Int32) * yI i = yI (5 * i) := yI_mul
  have i1 : yix (yI i) 60 := yix_I (by omega) (by omega)
  have c1 : (yI i).toNatClampNeg = i := yI_clamp (by omega)
  have a0 : yix (yI (5 * i)) 300 := yix_I (by omega) (by omega)
  have b0 : (yI (5 * i)).toNatClampNeg = 5 * i := yI_clamp (by omega)
  unfold yfault at h0
  unfold ydo
  rcases (by omega : T.1 i = 0 ∨ (T.1 i = 1 ∨ (T.1 i = 2 ∨ (T.1 i = 3 ∨ T.1 i = 4)))) with k | k | k | k | k
  · rw [k] at g1 g2 hN
    rw [if_pos k] at h0 ⊢
    have g1' : t1.A 35 i = 0 := g1
    have n0 : t1.A 36 (5 * i) = yI (T.2.1 i 0) := g2 0 (by decide)
    have n1 := g2 1 (by decide)
    have n2 := g2 2 (by decide)
    have n3 := g2 3 (by decide)
    have n4 := g2 4 (by decide)
    have e1 : yI (5 * i) + 1 = yI (5 * i + 1) := yI_add
    have e2 : yI (5 * i) + 2 = yI (5 * i + 2) := yI_add
    have e3 : yI (5 * i) + 3 = yI (5 * i + 3) := yI_add
    have e4 : yI (5 * i) + 4 = yI (5 * i + 4) := yI_add
    have a1 : yix (yI (5 * i + 1)) 300 := yix_I (by omega) (by omega)
    have b1 : (yI (5 * i + 1)).toNatClampNeg = 5 * i + 1 := yI_clamp (by omega)
    have a2 : yix (yI (5 * i + 2)) 300 := yix_I (by omega) (by omega)
    have b2 : (yI (5 * i + 2)).toNatClampNeg = 5 * i + 2 := yI_clamp (by omega)
    have a3 : yix (yI (5 * i + 3)) 300 := yix_I (by omega) (by omega)
    have b3 : (yI (5 * i + 3)).toNatClampNeg = 5 * i + 3 := yI_clamp (by omega)
    have a4 : yix (yI (5 * i + 4)) 300 := yix_I (by omega) (by omega)
    have b4 : (yI (5 * i + 4)).toNatClampNeg = 5 * i + 4 := yI_clamp (by omega)
    have hok : ¬ (D.n ≤ T.2.1 i 0 ∨ D.n ≤ T.2.1 i 1) ∧ ¬ (T.2.1 i 1 < T.2.1 i 0 ∨ (255 < T.2.1 i 2 ∨ (255 < T.2.1 i 3 ∨ 255 < T.2.1 i 4))) := by
      by_cases h1 : D.n ≤ T.2.1 i 0 ∨ D.n ≤ T.2.1 i 1
      · rw [if_pos h1] at h0; exact absurd h0 (by decide)
      · rw [if_neg h1] at h0
        by_cases h2 : T.2.1 i 1 < T.2.1 i 0 ∨ (255 < T.2.1 i 2 ∨ (255 < T.2.1 i 3 ∨ 255 < T.2.1 i 4))
        · rw [if_pos h2] at h0; exact absurd h0 (by decide)
        · exact ⟨h1, h2⟩
    have hcol := ycols_nat (hN 2 (by decide)) (hN 3 (by decide)) (hN 4 (by decide))
    rw [decide_eq_false (fun h => hok.2 (Or.inr h)), Bool.not_false] at hcol
    have ec := (ycols_eq hcol).trans ycolor_nat
    obtain ⟨u, hu, Wu, Fu⟩ := m_39 (d := d + 5) (c := yI (65536 * T.2.1 i 2 + 256 * T.2.1 i 3 + T.2.1 i 4)) (f := T.2.1 i 0) (q := T.2.1 i 1) (by omega) (by omega) W
    refine ⟨u, ⟨some (.int (yI (5 * i))), fun Q => ?_⟩, Wu, Fu.mono (fun a h => by omega)⟩
    simp only [s_18_0, s_18_1, s_18_2, s_18_3, s_18_4, s_18_5, s_18_6, s_18_7, s_18_8, s_18_9, s_18_10, s_18_11, s_18_12, s_18_13, s_18_14, s_18_15, s_18_16, s_18_17, s_18_18, s_18_19, s_18_20, s_18_21, s_18_22, s_18_23, s_18_24_0, s_18_24_1, s_18_24_2, s_18_24_3, s_18_24_d, s_18_25, s_18_26, s_18_27, s_18_28, s_18_29, s_18_30, s_18_31, s_18_32, s_18_33, s_18_34, s_18_35, s_18_36, s_18_37, s_18_38, s_18_39, s_18_40, s_18_41, s_18_42, s_18_43, s_18_44, s_18_45, s_18_46, s_18_47, s_18_48, s_18_49, s_18_50, s_18_51, s_18_52, s_18_53, s_18_54, s_18_55, s_18_56, s_18_57, s_18_57i, s_18_58, s_18_59, s_18_60, s_18_61, s_18_62, s_18_63, s_18_64, s_18_65, s_18_66, s_18_66i, s_18_67, s_18_68, s_18_69, s_18_70, s_18_71, s_18_72, s_18_73, s_18_74, s_18_75, s_18_76, s_18_77, s_18_78, s_18_79, s_18_80, s_18_81, s_18_82, s_18_83, s_18_84, s_18_85, s_18_86, s_18_87, s_18_88, s_18_89, s_18_91, s_18_91i, s_18_92, s_18_93, s_18_94, s_18_95, s_18_96, s_18_97, yO_34, yO_7, e8, ne_eq, not_true_eq_false, if_false, if_true, e5, yA_35, yn_35, i1, c1, g1', yA_36, yn_36, a0, b0, n0, e1, a1, b1, n1, e2, a2, b2, n2, e3, a3, b3, n3, e4, a4, b4, n4, m_121, ec, hu, Gk_v, Gk_n, xcat_nil, xcat_i, xcat_r, xcat_l, xcat_d, Nat.zero_le, Nat.reduceAdd, Nat.reduceLeDiff, true_and, and_true, ykl_i, ykl_r, ykl_n, ykl_l]
  · rw [k] at g1 g2 hN
    have g1' : t1.A 35 i = 1 := g1
    have n0 : t1.A 36 (5 * i) = yI (T.2.1 i 0) := g2 0 (by decide)
    rw [if_neg (by omega), if_pos k]
    obtain ⟨u, hu, Wu, Fu⟩ := m_40 (d := d + 5) (hN 0 (by decide)) W
    refine ⟨u, ⟨some (.int (yI (5 * i))), fun Q => ?_⟩, Wu, Fu.mono (fun a h => by omega)⟩
    simp only [s_18_0, s_18_1, s_18_2, s_18_3, s_18_4, s_18_5, s_18_6, s_18_7, s_18_8, s_18_9, s_18_10, s_18_11, s_18_12, s_18_13, s_18_14, s_18_15, s_18_16, s_18_17, s_18_18, s_18_19, s_18_20, s_18_21, s_18_22, s_18_23, s_18_24_0, s_18_24_1, s_18_24_2, s_18_24_3, s_18_24_d, s_18_25, s_18_26, s_18_27, s_18_28, s_18_29, s_18_30, s_18_31, s_18_32, s_18_33, s_18_34, s_18_35, s_18_36, s_18_37, s_18_38, s_18_39, s_18_40, s_18_41, s_18_42, s_18_43, s_18_44, s_18_45, s_18_46, s_18_47, s_18_48, s_18_49, s_18_50, s_18_51, s_18_52, s_18_53, s_18_54, s_18_55, s_18_56, s_18_57, s_18_57i, s_18_58, s_18_59, s_18_60, s_18_61, s_18_62, s_18_63, s_18_64, s_18_65, s_18_66, s_18_66i, s_18_67, s_18_68, s_18_69, s_18_70, s_18_71, s_18_72, s_18_73, s_18_74, s_18_75, s_18_76, s_18_77, s_18_78, s_18_79, s_18_80, s_18_81, s_18_82, s_18_83, s_18_84, s_18_85, s_18_86, s_18_87, s_18_88, s_18_89, s_18_91, s_18_91i, s_18_92, s_18_93, s_18_94, s_18_95, s_18_96, s_18_97, yO_34, yO_7, e8, ne_eq, not_true_eq_false, if_false, if_true, e5, yA_35, yn_35, i1, c1, g1', yA_36, yn_36, a0, b0, n0, hu, Gk_v, Gk_n, xcat_nil, xcat_i, xcat_r, xcat_l, xcat_d, Nat.zero_le, Nat.reduceAdd, Nat.reduceLeDiff, true_and, and_true, ykl_i, ykl_r, ykl_n, ykl_l]
  · rw [k] at g1 g2 hN
    have g1' : t1.A 35 i = 2 := g1
    have n0 : t1.A 36 (5 * i) = yI (T.2.1 i 0) := g2 0 (by decide)
    rw [if_neg (by omega), if_pos k] at h0
    rw [if_neg (by omega), if_neg (by omega), if_pos k]
    have hx : ¬ 255 < T.2.1 i 0 := fun h => by rw [if_pos h] at h0; exact absurd h0 (by decide)
    refine ⟨t1.s1 7 11 (yI (T.2.1 i 0)), ⟨some (.int (yI (5 * i))), fun Q => ?_⟩, ⟨yDok_slv W.ok (by omega), yV_slv W.v⟩, (yFr_s1 (P := fun a => a = 7) rfl).mono (fun a (h : a = 7) => by omega)⟩
    simp only [s_18_0, s_18_1, s_18_2, s_18_3, s_18_4, s_18_5, s_18_6, s_18_7, s_18_8, s_18_9, s_18_10, s_18_11, s_18_12, s_18_13, s_18_14, s_18_15, s_18_16, s_18_17, s_18_18, s_18_19, s_18_20, s_18_21, s_18_22, s_18_23, s_18_24_0, s_18_24_1, s_18_24_2, s_18_24_3, s_18_24_d, s_18_25, s_18_26, s_18_27, s_18_28, s_18_29, s_18_30, s_18_31, s_18_32, s_18_33, s_18_34, s_18_35, s_18_36, s_18_37, s_18_38, s_18_39, s_18_40, s_18_41, s_18_42, s_18_43, s_18_44, s_18_45, s_18_46, s_18_47, s_18_48, s_18_49, s_18_50, s_18_51, s_18_52, s_18_53, s_18_54, s_18_55, s_18_56, s_18_57, s_18_57i, s_18_58, s_18_59, s_18_60, s_18_61, s_18_62, s_18_63, s_18_64, s_18_65, s_18_66, s_18_66i, s_18_67, s_18_68, s_18_69, s_18_70, s_18_71, s_18_72, s_18_73, s_18_74, s_18_75, s_18_76, s_18_77, s_18_78, s_18_79, s_18_80, s_18_81, s_18_82, s_18_83, s_18_84, s_18_85, s_18_86, s_18_87, s_18_88, s_18_89, s_18_91, s_18_91i, s_18_92, s_18_93, s_18_94, s_18_95, s_18_96, s_18_97, yO_34, yO_7, e8, ne_eq, not_true_eq_false, if_false, if_true, e5, yA_35, yn_35, i1, c1, g1', yA_36, yn_36, a0, b0, n0, Gk_v, Gk_n, xcat_nil, xcat_i, xcat_r, xcat_l, xcat_d, Nat.zero_le, Nat.reduceAdd, Nat.reduceLeDiff, true_and, and_true, ykl_i, ykl_r, ykl_n, ykl_l]
  · rw [k] at g1
    have g1' : t1.A 35 i = 3 := g1
    rw [if_neg (by omega), if_neg (by omega), if_neg (by omega), if_pos k]
    obtain ⟨u, hu, Wu, Fu⟩ := m_52 (d := d) W
    refine ⟨u, ⟨some (.int (yI (5 * i))), fun Q => ?_⟩, Wu, Fu.mono (fun a h => by omega)⟩
    simp only [s_18_0, s_18_1, s_18_2, s_18_3, s_18_4, s_18_5, s_18_6, s_18_7, s_18_8, s_18_9, s_18_10, s_18_11, s_18_12, s_18_13, s_18_14, s_18_15, s_18_16, s_18_17, s_18_18, s_18_19, s_18_20, s_18_21, s_18_22, s_18_23, s_18_24_0, s_18_24_1, s_18_24_2, s_18_24_3, s_18_24_d, s_18_25, s_18_26, s_18_27, s_18_28, s_18_29, s_18_30, s_18_31, s_18_32, s_18_33, s_18_34, s_18_35, s_18_36, s_18_37, s_18_38, s_18_39, s_18_40, s_18_41, s_18_42, s_18_43, s_18_44, s_18_45, s_18_46, s_18_47, s_18_48, s_18_49, s_18_50, s_18_51, s_18_52, s_18_53, s_18_54, s_18_55, s_18_56, s_18_57, s_18_57i, s_18_58, s_18_59, s_18_60, s_18_61, s_18_62, s_18_63, s_18_64, s_18_65, s_18_66, s_18_66i, s_18_67, s_18_68, s_18_69, s_18_70, s_18_71, s_18_72, s_18_73, s_18_74, s_18_75, s_18_76, s_18_77, s_18_78, s_18_79, s_18_80, s_18_81, s_18_82, s_18_83, s_18_84, s_18_85, s_18_86, s_18_87, s_18_88, s_18_89, s_18_91, s_18_91i, s_18_92, s_18_93, s_18_94, s_18_95, s_18_96, s_18_97, yO_34, yO_7, e8, ne_eq, not_true_eq_false, if_false, if_true, e5, yA_35, yn_35, i1, c1, g1', hu, Gk_v, Gk_n, xcat_nil, xcat_i, xcat_r, xcat_l, xcat_d, Nat.zero_le, Nat.reduceAdd, Nat.reduceLeDiff, true_and, and_true, ykl_i, ykl_r, ykl_n, ykl_l]
  · rw [k] at g1 g2 hN
    have g1' : t1.A 35 i = 4 := g1
    have n0 : t1.A 36 (5 * i) = yI (T.2.1 i 0) := g2 0 (by decide)
    rw [if_neg (by omega), if_neg (by omega), if_pos k] at h0
    rw [if_neg (by omega), if_neg (by omega), if_neg (by omega), if_neg (by omega)]
    have hx : ¬ D.n ≤ T.2.1 i 0 := fun h => by rw [if_pos h] at h0; exact absurd h0 (by decide)
    have hd4 : (4 : Int32).toInt < 0 ∨ 3 < (4 : Int32).toInt := by decide
    obtain ⟨g35, W35⟩ := m_35 (d := d + 5) W (p := T.2.1 i 0) (by omega) (b := true)
    have g35' : ∀ Q', Cl (d + 5) 35 [.ref 7, .int (yI (T.2.1 i 0)), .int 1] (yemb t1) Q' ↔ Q' (.inl none) (yemb (t1.sL 7 15 (Int64.ofNat (ybs D.bw (T.2.1 i 0) true)))) := g35
    refine ⟨_, ⟨some (.int (yI (5 * i))), fun Q => ?_⟩, W35, (yFr_sL (P := fun a => a = 7) rfl).mono (fun a (h : a = 7) => by omega)⟩
    simp only [s_18_0, s_18_1, s_18_2, s_18_3, s_18_4, s_18_5, s_18_6, s_18_7, s_18_8, s_18_9, s_18_10, s_18_11, s_18_12, s_18_13, s_18_14, s_18_15, s_18_16, s_18_17, s_18_18, s_18_19, s_18_20, s_18_21, s_18_22, s_18_23, s_18_24_0, s_18_24_1, s_18_24_2, s_18_24_3, s_18_24_d, s_18_25, s_18_26, s_18_27, s_18_28, s_18_29, s_18_30, s_18_31, s_18_32, s_18_33, s_18_34, s_18_35, s_18_36, s_18_37, s_18_38, s_18_39, s_18_40, s_18_41, s_18_42, s_18_43, s_18_44, s_18_45, s_18_46, s_18_47, s_18_48, s_18_49, s_18_50, s_18_51, s_18_52, s_18_53, s_18_54, s_18_55, s_18_56, s_18_57, s_18_57i, s_18_58, s_18_59, s_18_60, s_18_61, s_18_62, s_18_63, s_18_64, s_18_65, s_18_66, s_18_66i, s_18_67, s_18_68, s_18_69, s_18_70, s_18_71, s_18_72, s_18_73, s_18_74, s_18_75, s_18_76, s_18_77, s_18_78, s_18_79, s_18_80, s_18_81, s_18_82, s_18_83, s_18_84, s_18_85, s_18_86, s_18_87, s_18_88, s_18_89, s_18_91, s_18_91i, s_18_92, s_18_93, s_18_94, s_18_95, s_18_96, s_18_97, yO_34, yO_7, e8, ne_eq, not_true_eq_false, if_false, if_true, e5, yA_35, yn_35, i1, c1, g1', yA_36, yn_36, a0, b0, n0, s_18_24_d hd4, g35', Gk_v, Gk_n, xcat_nil, xcat_i, xcat_r, xcat_l, xcat_d, Nat.zero_le, Nat.reduceAdd, Nat.reduceLeDiff, true_and, and_true, ykl_i, ykl_r, ykl_n, ykl_l]
end

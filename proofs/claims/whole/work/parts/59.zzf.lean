/-! ===== the model's scripts: commands and blocks ===== -/
section
variable {d : Nat} {t : yT} {n : Nat} {B : Nat → Nat} {q c : Nat} {blk : Nat → Nat → yTb → yPg} {al : Bool} {dep : Nat} {W : yTb → Nat → Nat → Prop}
/-- the commands' end, in error -/
theorem l_153e {l1 : Int32} {l2 l3 l4 l5 l6 : Option Value} (h5 : ¬ t.A 160 5 = 0) : Ga (d + 3) 153 102 [some (.ref 160), some (.int l1), l2, l3, l4, l5, l6] [] (yemb t) (.inl none) (yemb t) := by
  intro Q
  have g136 := fun (c : Int32) => m_136n (d := d) h5 (c := c)
  have g132 := w_132n (d := d + 2) h5
  have g0 : G (d + 3) 153 0 [some (.ref 160), some (.int l1), l2, l3, l4, l5, l6] [] (yemb t) Q ↔ Q (.inl none) (yemb t) := by
    rw [s_153_0]
    simp only [s_153_1, s_153_2, s_153_3, s_153_4, s_153_5, s_153_6, s_153_7, s_153_8, s_153_9, s_153_10, s_153_11, s_153_12, s_153_13, s_153_14, s_153_15, s_153_16, s_153_17, s_153_18, s_153_19, s_153_20, s_153_21, s_153_22, s_153_23, s_153_24, s_153_25, s_153_26, s_153_27, s_153_28, s_153_29, s_153_30, s_153_31, s_153_32, s_153_33, s_153_34, s_153_35, s_153_36, s_153_37, s_153_38, s_153_39, s_153_40, s_153_41, s_153_42, s_153_43, s_153_44, s_153_45, s_153_46, s_153_47, s_153_48, s_153_49, s_153_50, s_153_51, s_153_52, s_153_53, s_153_54, s_153_55, s_153_56, s_153_57, s_153_58, s_153_59, s_153_59i, s_153_60, s_153_61, s_153_62, s_153_63, s_153_64, s_153_65, s_153_66, s_153_67, s_153_68, s_153_69, s_153_70, s_153_71, s_153_72, s_153_73, s_153_74, s_153_75, s_153_76, s_153_77, s_153_78, s_153_79, s_153_80, s_153_81, s_153_82, s_153_83, s_153_84, s_153_85, s_153_86, s_153_87, s_153_88, s_153_89, s_153_90, s_153_91, s_153_92, s_153_93, s_153_94, s_153_95, s_153_96, s_153_97, s_153_98, s_153_99, s_153_100, s_153_101, s_153_102, s_153_103, s_153_104, s_153_105, s_153_106, yO_160, g132, if_true, Gk_v, Gk_n, xcat_nil, xcat_i, xcat_r, xcat_l, xcat_d, Nat.zero_le, Nat.reduceAdd, Nat.reduceLeDiff, true_and, and_true, ykl_i, ykl_r, ykl_n, ykl_l]
  simp only [s_153_1, s_153_2, s_153_3, s_153_4, s_153_5, s_153_6, s_153_7, s_153_8, s_153_9, s_153_10, s_153_11, s_153_12, s_153_13, s_153_14, s_153_15, s_153_16, s_153_17, s_153_18, s_153_19, s_153_20, s_153_21, s_153_22, s_153_23, s_153_24, s_153_25, s_153_26, s_153_27, s_153_28, s_153_29, s_153_30, s_153_31, s_153_32, s_153_33, s_153_34, s_153_35, s_153_36, s_153_37, s_153_38, s_153_39, s_153_40, s_153_41, s_153_42, s_153_43, s_153_44, s_153_45, s_153_46, s_153_47, s_153_48, s_153_49, s_153_50, s_153_51, s_153_52, s_153_53, s_153_54, s_153_55, s_153_56, s_153_57, s_153_58, s_153_59, s_153_59i, s_153_60, s_153_61, s_153_62, s_153_63, s_153_64, s_153_65, s_153_66, s_153_67, s_153_68, s_153_69, s_153_70, s_153_71, s_153_72, s_153_73, s_153_74, s_153_75, s_153_76, s_153_77, s_153_78, s_153_79, s_153_80, s_153_81, s_153_82, s_153_83, s_153_84, s_153_85, s_153_86, s_153_87, s_153_88, s_153_89, s_153_90, s_153_91, s_153_92, s_153_93, s_153_94, s_153_95, s_153_96, s_153_97, s_153_98, s_153_99, s_153_100, s_153_101, s_153_102, s_153_103, s_153_104, s_153_105, s_153_106, yO_160, g136, g0, Gk_v, Gk_n, xcat_nil, xcat_i, xcat_r, xcat_l, xcat_d, Nat.zero_le, Nat.reduceAdd, Nat.reduceLeDiff, true_and, and_true, ykl_i, ykl_r, ykl_n, ykl_l]
theorem l_153c (hal : al = decide (dep < 3)) (hd3 : dep ≤ 3) (HB : al = true → yBd (d + 4) (dep + 1) n B blk) (hb : al = true → ygood n W blk) {l2 l3 l4 l5 l6 : Option Value} {T : yTb} (M : yMc t n B q c) (hid : ysk n B q = q) (hc60 : c ≤ 60) :
    (∀ e a, ycmd n B blk al q c T = .inl (e, a) → ∃ u, Ga (d + 6) 153 13 [some (.ref 160), some (.int (yI dep)), l2, l3, l4, l5, l6] [] (yemb t) (.inl none) (yemb u) ∧ (yEr u e a ∧ yKde t u))
    ∧ (∀ q' c' T', ycmd n B blk al q c T = .inr (q', (c', T')) → ∃ (u : yT) (m' : Nat) (l2' l3' l4' l5' l6' : Option Value), Gg (d + 6) 153 13 [some (.ref 160), some (.int (yI dep)), l2, l3, l4, l5, l6] [] (yemb t) 102 [some (.ref 160), some (.int (yI dep)), l2', l3', l4', l5', l6'] [] (yemb u) ∧ (yMc u n B m' c' ∧ (ysk n B m' = q' ∧ (yGm u c c' T' ∧ yKd t u c)))) := by
  have p4 : t.A 160 4 = yI q := M.2.2.1
  obtain ⟨u1, hu1, M1, K1⟩ := m_152 (d := d) (c0 := c) M
  rw [hid] at hu1 M1
  have u23 : u1.A 160 23 = yI c := M1.2.2.2.2
  have e7 : (7 : Int32) * yI c = yI (7 * c) := yI_mul
  unfold ycmd
  by_cases h6 : ykh n B q = 6
  · rw [if_pos h6]
    refine ⟨fun e a h => ?_, fun q' c' T' h => by cases h⟩
    cases h
    rw [if_pos h6] at M1
    rw [h6] at hu1
    have e1 : ykI 6 = -1 := rfl
    rw [e1] at hu1
    obtain ⟨w, hw, E, Kw, w23⟩ := c_133 (d := d + 5) M1 (e := -2) (by decide) (a := q)
    have g132 := w_132n (d := d + 5) E.1
    have g133 := fun (c a : Int32) => m_133n (d := d + 5) E.1 (c := c) (a := a)
    have c5 : ¬ (-1 : Int32) = 5 := by decide
    refine ⟨w, fun Q => ?_, E, yKde_tr K1.1 Kw⟩
    by_cases h60 : yI c = 60
    · rw [h60] at w23 u23 e7
      simp only [s_153_1, s_153_2, s_153_3, s_153_4, s_153_5, s_153_6, s_153_7, s_153_8, s_153_9, s_153_10, s_153_11, s_153_12, s_153_13, s_153_14, s_153_15, s_153_16, s_153_17, s_153_18, s_153_19, s_153_20, s_153_21, s_153_22, s_153_23, s_153_24, s_153_25, s_153_26, s_153_27, s_153_28, s_153_29, s_153_30, s_153_31, s_153_32, s_153_33, s_153_34, s_153_35, s_153_36, s_153_37, s_153_38, s_153_39, s_153_40, s_153_41, s_153_42, s_153_43, s_153_44, s_153_45, s_153_46, s_153_47, s_153_48, s_153_49, s_153_50, s_153_51, s_153_52, s_153_53, s_153_54, s_153_55, s_153_56, s_153_57, s_153_58, s_153_59, s_153_59i, s_153_60, s_153_61, s_153_62, s_153_63, s_153_64, s_153_65, s_153_66, s_153_67, s_153_68, s_153_69, s_153_70, s_153_71, s_153_72, s_153_73, s_153_74, s_153_75, s_153_76, s_153_77, s_153_78, s_153_79, s_153_81, s_153_82, s_153_83, s_153_84, s_153_85, s_153_86, s_153_87, s_153_88, s_153_89, s_153_90, s_153_91, s_153_92, s_153_93, s_153_94, s_153_96, s_153_97, s_153_98, s_153_99, s_153_100, s_153_101, s_153_103, s_153_104, s_153_105, s_153_106, yO_160, p4, hu1, u23, ne_eq, not_true_eq_false, not_false_eq_true, if_true, if_false, hw, w23, g133, c5, g132, Gk_v, Gk_n, xcat_nil, xcat_i, xcat_r, xcat_l, xcat_d, Nat.zero_le, Nat.reduceAdd, Nat.reduceLeDiff, true_and, and_true, ykl_i, ykl_r, ykl_n, ykl_l]
    · simp only [s_153_1, s_153_2, s_153_3, s_153_4, s_153_5, s_153_6, s_153_7, s_153_8, s_153_9, s_153_10, s_153_11, s_153_12, s_153_13, s_153_14, s_153_15, s_153_16, s_153_17, s_153_18, s_153_19, s_153_20, s_153_21, s_153_22, s_153_23, s_153_24, s_153_25, s_153_26, s_153_27, s_153_28, s_153_29, s_153_30, s_153_31, s_153_32, s_153_33, s_153_34, s_153_35, s_153_36, s_153_37, s_153_38, s_153_39, s_153_40, s_153_41, s_153_42, s_153_43, s_153_44, s_153_45, s_153_46, s_153_47, s_153_48, s_153_49, s_153_50, s_153_51, s_153_52, s_153_53, s_153_54, s_153_55, s_153_56, s_153_57, s_153_58, s_153_59, s_153_59i, s_153_60, s_153_61, s_153_62, s_153_63, s_153_64, s_153_65, s_153_66, s_153_67, s_153_68, s_153_69, s_153_70, s_153_71, s_153_72, s_153_73, s_153_74, s_153_75, s_153_76, s_153_77, s_153_78, s_153_79, s_153_81, s_153_82, s_153_83, s_153_84, s_153_85, s_153_86, s_153_87, s_153_88, s_153_89, s_153_90, s_153_91, s_153_92, s_153_93, s_153_94, s_153_96, s_153_97, s_153_98, s_153_99, s_153_100, s_153_101, s_153_103, s_153_104, s_153_105, s_153_106, yO_160, p4, hu1, u23, ne_eq, not_true_eq_false, not_false_eq_true, if_true, if_false, hw, w23, h60, c5, g132, Gk_v, Gk_n, xcat_nil, xcat_i, xcat_r, xcat_l, xcat_d, Nat.zero_le, Nat.reduceAdd, Nat.reduceLeDiff, true_and, and_true, ykl_i, ykl_r, ykl_n, ykl_l]
  · rw [if_neg h6]
    rw [if_neg h6] at M1
    obtain ⟨k6, hw, hisw⟩ := ykh_w h6
    have e1 : ykI (ykh n B q) = yI (ykh n B q) := by rw [ykI, if_neg h6]
    rw [e1] at hu1
    generalize q + ywl (ykw (ykh n B q)) = m0 at *
    generalize ykh n B q = k at *
    have cm1 : ¬ yI k = -1 := fun h => by
      have := yI_nneg (n := k) (by omega)
      rw [h] at this
      exact this (by decide)
    by_cases h60 : 60 ≤ c
    · rw [if_pos h60]
      refine ⟨fun e a h => ?_, fun q' c' T' h => by cases h⟩
      cases h
      have c1 : yI c = 60 := by rw [show c = 60 by omega]; rfl
      rw [c1] at u23 e7
      obtain ⟨w, hw, E, Kw, w23⟩ := c_133 (d := d + 5) M1 (e := -5) (by decide) (a := q)
      have g132 := w_132n (d := d + 5) E.1
      have g133 := fun (c a : Int32) => m_133n (d := d + 5) E.1 (c := c) (a := a)
      refine ⟨w, fun Q => ?_, E, yKde_tr K1.1 Kw⟩
      by_cases h5 : yI k = 5
      · by_cases hd : yI dep = 3
        · simp only [s_153_1, s_153_2, s_153_3, s_153_4, s_153_5, s_153_6, s_153_7, s_153_8, s_153_9, s_153_10, s_153_11, s_153_12, s_153_13, s_153_14, s_153_15, s_153_16, s_153_17, s_153_18, s_153_19, s_153_20, s_153_21, s_153_22, s_153_23, s_153_24, s_153_25, s_153_26, s_153_27, s_153_28, s_153_29, s_153_30, s_153_31, s_153_32, s_153_33, s_153_34, s_153_35, s_153_36, s_153_37, s_153_38, s_153_39, s_153_40, s_153_41, s_153_42, s_153_43, s_153_44, s_153_45, s_153_46, s_153_47, s_153_48, s_153_49, s_153_50, s_153_51, s_153_52, s_153_53, s_153_54, s_153_55, s_153_56, s_153_57, s_153_58, s_153_59, s_153_59i, s_153_60, s_153_61, s_153_62, s_153_63, s_153_64, s_153_65, s_153_66, s_153_67, s_153_68, s_153_69, s_153_70, s_153_71, s_153_72, s_153_73, s_153_74, s_153_75, s_153_76, s_153_77, s_153_78, s_153_79, s_153_81, s_153_82, s_153_83, s_153_84, s_153_85, s_153_86, s_153_87, s_153_88, s_153_89, s_153_90, s_153_91, s_153_92, s_153_93, s_153_94, s_153_96, s_153_97, s_153_98, s_153_99, s_153_100, s_153_101, s_153_103, s_153_104, s_153_105, s_153_106, yO_160, p4, hu1, u23, cm1, ne_eq, not_true_eq_false, not_false_eq_true, if_true, if_false, hw, h5, show ¬ (5 : Int32) = -1 by decide, hd, g133, g132, Gk_v, Gk_n, xcat_nil, xcat_i, xcat_r, xcat_l, xcat_d, Nat.zero_le, Nat.reduceAdd, Nat.reduceLeDiff, true_and, and_true, ykl_i, ykl_r, ykl_n, ykl_l]
        · simp only [s_153_1, s_153_2, s_153_3, s_153_4, s_153_5, s_153_6, s_153_7, s_153_8, s_153_9, s_153_10, s_153_11, s_153_12, s_153_13, s_153_14, s_153_15, s_153_16, s_153_17, s_153_18, s_153_19, s_153_20, s_153_21, s_153_22, s_153_23, s_153_24, s_153_25, s_153_26, s_153_27, s_153_28, s_153_29, s_153_30, s_153_31, s_153_32, s_153_33, s_153_34, s_153_35, s_153_36, s_153_37, s_153_38, s_153_39, s_153_40, s_153_41, s_153_42, s_153_43, s_153_44, s_153_45, s_153_46, s_153_47, s_153_48, s_153_49, s_153_50, s_153_51, s_153_52, s_153_53, s_153_54, s_153_55, s_153_56, s_153_57, s_153_58, s_153_59, s_153_59i, s_153_60, s_153_61, s_153_62, s_153_63, s_153_64, s_153_65, s_153_66, s_153_67, s_153_68, s_153_69, s_153_70, s_153_71, s_153_72, s_153_73, s_153_74, s_153_75, s_153_76, s_153_77, s_153_78, s_153_79, s_153_81, s_153_82, s_153_83, s_153_84, s_153_85, s_153_86, s_153_87, s_153_88, s_153_89, s_153_90, s_153_91, s_153_92, s_153_93, s_153_94, s_153_96, s_153_97, s_153_98, s_153_99, s_153_100, s_153_101, s_153_103, s_153_104, s_153_105, s_153_106, yO_160, p4, hu1, u23, cm1, ne_eq, not_true_eq_false, not_false_eq_true, if_true, if_false, hw, h5, show ¬ (5 : Int32) = -1 by decide, hd, g132, Gk_v, Gk_n, xcat_nil, xcat_i, xcat_r, xcat_l, xcat_d, Nat.zero_le, Nat.reduceAdd, Nat.reduceLeDiff, true_and, and_true, ykl_i, ykl_r, ykl_n, ykl_l]
      · simp only [s_153_1, s_153_2, s_153_3, s_153_4, s_153_5, s_153_6, s_153_7, s_153_8, s_153_9, s_153_10, s_153_11, s_153_12, s_153_13, s_153_14, s_153_15, s_153_16, s_153_17, s_153_18, s_153_19, s_153_20, s_153_21, s_153_22, s_153_23, s_153_24, s_153_25, s_153_26, s_153_27, s_153_28, s_153_29, s_153_30, s_153_31, s_153_32, s_153_33, s_153_34, s_153_35, s_153_36, s_153_37, s_153_38, s_153_39, s_153_40, s_153_41, s_153_42, s_153_43, s_153_44, s_153_45, s_153_46, s_153_47, s_153_48, s_153_49, s_153_50, s_153_51, s_153_52, s_153_53, s_153_54, s_153_55, s_153_56, s_153_57, s_153_58, s_153_59, s_153_59i, s_153_60, s_153_61, s_153_62, s_153_63, s_153_64, s_153_65, s_153_66, s_153_67, s_153_68, s_153_69, s_153_70, s_153_71, s_153_72, s_153_73, s_153_74, s_153_75, s_153_76, s_153_77, s_153_78, s_153_79, s_153_81, s_153_82, s_153_83, s_153_84, s_153_85, s_153_86, s_153_87, s_153_88, s_153_89, s_153_90, s_153_91, s_153_92, s_153_93, s_153_94, s_153_96, s_153_97, s_153_98, s_153_99, s_153_100, s_153_101, s_153_103, s_153_104, s_153_105, s_153_106, yO_160, p4, hu1, u23, cm1, ne_eq, not_true_eq_false, not_false_eq_true, if_true, if_false, hw, h5, g132, Gk_v, Gk_n, xcat_nil, xcat_i, xcat_r, xcat_l, xcat_d, Nat.zero_le, Nat.reduceAdd, Nat.reduceLeDiff, true_and, and_true, ykl_i, ykl_r, ykl_n, ykl_l]
    · rw [if_neg h60]
      have c1 : ¬ yI c = 60 := fun h => by
        have := (yI_inj (m := 60) (by omega) (by decide)).mp h
        omega
      have g132 := c_132 (d := d + 5) M1
      have c10 : ¬ (1 : Int32) = 0 := by decide
      by_cases hal2 : k = 5 ∧ al = false
      · rw [if_pos hal2]
        refine ⟨fun e a h => ?_, fun q' c' T' h => by cases h⟩
        cases h
        have hd : yI dep = 3 := by
          have h' : ¬ dep < 3 := fun h => by
            rw [hal2.2, decide_eq_true h] at hal
            cases hal
          rw [show dep = 3 by omega]
          rfl
        have c5 : yI k = 5 := by rw [hal2.1]; rfl
        have cm5 : ¬ (5 : Int32) = -1 := by decide
        obtain ⟨w, hw, E, Kw, w23⟩ := c_133 (d := d + 5) M1 (e := -6) (by decide) (a := q)
        have g132n := w_132n (d := d + 5) E.1
        refine ⟨w, fun Q => ?_, E, yKde_tr K1.1 Kw⟩
        simp only [s_153_1, s_153_2, s_153_3, s_153_4, s_153_5, s_153_6, s_153_7, s_153_8, s_153_9, s_153_10, s_153_11, s_153_12, s_153_13, s_153_14, s_153_15, s_153_16, s_153_17, s_153_18, s_153_19, s_153_20, s_153_21, s_153_22, s_153_23, s_153_24, s_153_25, s_153_26, s_153_27, s_153_28, s_153_29, s_153_30, s_153_31, s_153_32, s_153_33, s_153_34, s_153_35, s_153_36, s_153_37, s_153_38, s_153_39, s_153_40, s_153_41, s_153_42, s_153_43, s_153_44, s_153_45, s_153_46, s_153_47, s_153_48, s_153_49, s_153_50, s_153_51, s_153_52, s_153_53, s_153_54, s_153_55, s_153_56, s_153_57, s_153_58, s_153_59, s_153_59i, s_153_60, s_153_61, s_153_62, s_153_63, s_153_64, s_153_65, s_153_66, s_153_67, s_153_68, s_153_69, s_153_70, s_153_71, s_153_72, s_153_73, s_153_74, s_153_75, s_153_76, s_153_77, s_153_78, s_153_79, s_153_81, s_153_82, s_153_83, s_153_84, s_153_85, s_153_86, s_153_87, s_153_88, s_153_89, s_153_90, s_153_91, s_153_92, s_153_93, s_153_94, s_153_96, s_153_97, s_153_98, s_153_99, s_153_100, s_153_101, s_153_103, s_153_104, s_153_105, s_153_106, yO_160, p4, hu1, u23, cm1, c1, ne_eq, not_true_eq_false, not_false_eq_true, if_true, if_false, hw, c5, cm5, hd, g132n, Gk_v, Gk_n, xcat_nil, xcat_i, xcat_r, xcat_l, xcat_d, Nat.zero_le, Nat.reduceAdd, Nat.reduceLeDiff, true_and, and_true, ykl_i, ykl_r, ykl_n, ykl_l]
      · rw [if_neg hal2]
        have i7 : yix (yI (7 * c)) 427 := yix_I (by omega) (by omega)
        have c7 : (yI (7 * c)).toNatClampNeg = 7 * c := yI_clamp (by omega)
        have ec : yI c + 1 = yI (c + 1) := yI_add
        obtain ⟨w, hwd⟩ : ∃ w, w = (u1.s1 179 (7 * c) (yI k)).s1 160 23 (yI (c + 1)) := ⟨_, rfl⟩
        have Mw : yMc w n B m0 (c + 1) := by rw [hwd]; exact yMc_23 (yMc_9 M1)
        have Kw : yKd u1 w c := by rw [hwd]; exact yKd_tr (yKd_9 (Nat.le_refl _)) yKd_23 (Nat.le_refl _)
        have w0 : w.A 179 (7 * c) = yI k := by rw [hwd, ys1_ne (by decide), ys1_same]
        have K1c := yKd_tr K1 Kw (Nat.le_refl _)
        have u23' : (u1.s1 179 (7 * c) (yI k)).A 160 23 = yI c := by rw [ys1_ne (by decide)]; exact u23
        -- the road to the numbers
        have start : ∀ (M : Nat), (if k = 5 then 0 else ynb k) = M → ∀ Q, G (d + 6) 153 13 [some (.ref 160), some (.int (yI dep)), l2, l3, l4, l5, l6] [] (yemb t) Q ↔ G (d + 6) 153 80 [some (.ref 160), some (.int (yI dep)), some (.int (yI q)), some (.int (yI k)), some (.int (yI (7 * c))), some (.int (yI M)), some (.int (yI (0 + 1)))] [] (yemb w) Q := by
          intro N hN Q
          rw [hwd]
          by_cases h5 : k = 5
          · have ha : al = true := by
              cases al
              · exact absurd ⟨h5, rfl⟩ hal2
              · rfl
            have hd : ¬ yI dep = 3 := fun h => by
              have h' := (yI_inj (m := 3) (by omega) (by decide)).mp h
              rw [ha] at hal
              have := of_decide_eq_true hal.symm
              omega
            rw [if_pos h5] at hN
            subst hN
            have k50 : yI k = 5 := by rw [h5]; rfl
            rw [k50] at hu1 u23'
            have cm5 : ¬ (5 : Int32) = -1 := by decide
            have c50 : ¬ (5 : Int32) = 0 := by decide
            have c53 : ¬ (5 : Int32) = 3 := by decide
            rw [k50]
            simp only [s_153_1, s_153_2, s_153_3, s_153_4, s_153_5, s_153_6, s_153_7, s_153_8, s_153_9, s_153_10, s_153_11, s_153_12, s_153_13, s_153_14, s_153_15, s_153_16, s_153_17, s_153_18, s_153_19, s_153_20, s_153_21, s_153_22, s_153_23, s_153_24, s_153_25, s_153_26, s_153_27, s_153_28, s_153_29, s_153_30, s_153_31, s_153_32, s_153_33, s_153_34, s_153_35, s_153_36, s_153_37, s_153_38, s_153_39, s_153_40, s_153_41, s_153_42, s_153_43, s_153_44, s_153_45, s_153_46, s_153_47, s_153_48, s_153_49, s_153_50, s_153_51, s_153_52, s_153_53, s_153_54, s_153_55, s_153_56, s_153_57, s_153_58, s_153_59, s_153_59i, s_153_60, s_153_61, s_153_62, s_153_63, s_153_64, s_153_65, s_153_66, s_153_67, s_153_68, s_153_69, s_153_70, s_153_71, s_153_72, s_153_73, s_153_74, s_153_75, s_153_76, s_153_77, s_153_78, s_153_79, s_153_81, s_153_82, s_153_83, s_153_84, s_153_85, s_153_86, s_153_87, s_153_88, s_153_89, s_153_90, s_153_91, s_153_92, s_153_93, s_153_94, s_153_96, s_153_97, s_153_98, s_153_99, s_153_100, s_153_101, s_153_103, s_153_104, s_153_105, s_153_106, yO_160, yA_179, yn_179, p4, hu1, u23, cm5, c1, ne_eq, not_true_eq_false, not_false_eq_true, if_true, if_false, hd, g132, c10, c50, c53, e7, i7, c7, u23', ec, Gk_v, Gk_n, xcat_nil, xcat_i, xcat_r, xcat_l, xcat_d, Nat.zero_le, Nat.reduceAdd, Nat.reduceLeDiff, true_and, and_true, ykl_i, ykl_r, ykl_n, ykl_l]
            exact Iff.rfl
          · rw [if_neg h5] at hN
            have c5 : ¬ yI k = 5 := fun h => h5 ((yI_inj (m := 5) (by omega) (by decide)).mp h)
            by_cases h0 : k = 0
            · have N5 : N = 5 := by rw [← hN, h0]; rfl
              subst N5
              have k00 : yI k = 0 := by rw [h0]; rfl
              rw [k00] at hu1 u23'
              have cm0 : ¬ (0 : Int32) = -1 := by decide
              have c05 : ¬ (0 : Int32) = 5 := by decide
              rw [k00]
              simp only [s_153_1, s_153_2, s_153_3, s_153_4, s_153_5, s_153_6, s_153_7, s_153_8, s_153_9, s_153_10, s_153_11, s_153_12, s_153_13, s_153_14, s_153_15, s_153_16, s_153_17, s_153_18, s_153_19, s_153_20, s_153_21, s_153_22, s_153_23, s_153_24, s_153_25, s_153_26, s_153_27, s_153_28, s_153_29, s_153_30, s_153_31, s_153_32, s_153_33, s_153_34, s_153_35, s_153_36, s_153_37, s_153_38, s_153_39, s_153_40, s_153_41, s_153_42, s_153_43, s_153_44, s_153_45, s_153_46, s_153_47, s_153_48, s_153_49, s_153_50, s_153_51, s_153_52, s_153_53, s_153_54, s_153_55, s_153_56, s_153_57, s_153_58, s_153_59, s_153_59i, s_153_60, s_153_61, s_153_62, s_153_63, s_153_64, s_153_65, s_153_66, s_153_67, s_153_68, s_153_69, s_153_70, s_153_71, s_153_72, s_153_73, s_153_74, s_153_75, s_153_76, s_153_77, s_153_78, s_153_79, s_153_81, s_153_82, s_153_83, s_153_84, s_153_85, s_153_86, s_153_87, s_153_88, s_153_89, s_153_90, s_153_91, s_153_92, s_153_93, s_153_94, s_153_96, s_153_97, s_153_98, s_153_99, s_153_100, s_153_101, s_153_103, s_153_104, s_153_105, s_153_106, yO_160, yA_179, yn_179, p4, hu1, u23, cm0, c1, c05, ne_eq, not_true_eq_false, not_false_eq_true, if_true, if_false, g132, c10, e7, i7, c7, u23', ec, Gk_v, Gk_n, xcat_nil, xcat_i, xcat_r, xcat_l, xcat_d, Nat.zero_le, Nat.reduceAdd, Nat.reduceLeDiff, true_and, and_true, ykl_i, ykl_r, ykl_n, ykl_l]
              exact Iff.rfl
            · have c0 : ¬ yI k = 0 := fun h => h0 ((yI_inj (m := 0) (by omega) (by decide)).mp h)
              by_cases h3 : k = 3
              · have N0 : N = 0 := by rw [← hN, h3]; rfl
                subst N0
                have k30 : yI k = 3 := by rw [h3]; rfl
                rw [k30] at hu1 u23'
                have cm3 : ¬ (3 : Int32) = -1 := by decide
                have c35 : ¬ (3 : Int32) = 5 := by decide
                have c30 : ¬ (3 : Int32) = 0 := by decide
                rw [k30]
                simp only [s_153_1, s_153_2, s_153_3, s_153_4, s_153_5, s_153_6, s_153_7, s_153_8, s_153_9, s_153_10, s_153_11, s_153_12, s_153_13, s_153_14, s_153_15, s_153_16, s_153_17, s_153_18, s_153_19, s_153_20, s_153_21, s_153_22, s_153_23, s_153_24, s_153_25, s_153_26, s_153_27, s_153_28, s_153_29, s_153_30, s_153_31, s_153_32, s_153_33, s_153_34, s_153_35, s_153_36, s_153_37, s_153_38, s_153_39, s_153_40, s_153_41, s_153_42, s_153_43, s_153_44, s_153_45, s_153_46, s_153_47, s_153_48, s_153_49, s_153_50, s_153_51, s_153_52, s_153_53, s_153_54, s_153_55, s_153_56, s_153_57, s_153_58, s_153_59, s_153_59i, s_153_60, s_153_61, s_153_62, s_153_63, s_153_64, s_153_65, s_153_66, s_153_67, s_153_68, s_153_69, s_153_70, s_153_71, s_153_72, s_153_73, s_153_74, s_153_75, s_153_76, s_153_77, s_153_78, s_153_79, s_153_81, s_153_82, s_153_83, s_153_84, s_153_85, s_153_86, s_153_87, s_153_88, s_153_89, s_153_90, s_153_91, s_153_92, s_153_93, s_153_94, s_153_96, s_153_97, s_153_98, s_153_99, s_153_100, s_153_101, s_153_103, s_153_104, s_153_105, s_153_106, yO_160, yA_179, yn_179, p4, hu1, u23, cm3, c1, c35, c30, ne_eq, not_true_eq_false, not_false_eq_true, if_true, if_false, g132, c10, e7, i7, c7, u23', ec, Gk_v, Gk_n, xcat_nil, xcat_i, xcat_r, xcat_l, xcat_d, Nat.zero_le, Nat.reduceAdd, Nat.reduceLeDiff, true_and, and_true, ykl_i, ykl_r, ykl_n, ykl_l]
                exact Iff.rfl
              · have N1 : N = 1 := by
                  rw [← hN]
                  unfold ynb
                  rw [if_neg h0, if_neg h3]
                subst N1
                have c3 : ¬ yI k = 3 := fun h => h3 ((yI_inj (m := 3) (by omega) (by decide)).mp h)
                simp only [s_153_1, s_153_2, s_153_3, s_153_4, s_153_5, s_153_6, s_153_7, s_153_8, s_153_9, s_153_10, s_153_11, s_153_12, s_153_13, s_153_14, s_153_15, s_153_16, s_153_17, s_153_18, s_153_19, s_153_20, s_153_21, s_153_22, s_153_23, s_153_24, s_153_25, s_153_26, s_153_27, s_153_28, s_153_29, s_153_30, s_153_31, s_153_32, s_153_33, s_153_34, s_153_35, s_153_36, s_153_37, s_153_38, s_153_39, s_153_40, s_153_41, s_153_42, s_153_43, s_153_44, s_153_45, s_153_46, s_153_47, s_153_48, s_153_49, s_153_50, s_153_51, s_153_52, s_153_53, s_153_54, s_153_55, s_153_56, s_153_57, s_153_58, s_153_59, s_153_59i, s_153_60, s_153_61, s_153_62, s_153_63, s_153_64, s_153_65, s_153_66, s_153_67, s_153_68, s_153_69, s_153_70, s_153_71, s_153_72, s_153_73, s_153_74, s_153_75, s_153_76, s_153_77, s_153_78, s_153_79, s_153_81, s_153_82, s_153_83, s_153_84, s_153_85, s_153_86, s_153_87, s_153_88, s_153_89, s_153_90, s_153_91, s_153_92, s_153_93, s_153_94, s_153_96, s_153_97, s_153_98, s_153_99, s_153_100, s_153_101, s_153_103, s_153_104, s_153_105, s_153_106, yO_160, yA_179, yn_179, p4, hu1, u23, cm1, c1, c5, c0, c3, ne_eq, not_true_eq_false, not_false_eq_true, if_true, if_false, g132, c10, e7, i7, c7, u23', ec, Gk_v, Gk_n, xcat_nil, xcat_i, xcat_r, xcat_l, xcat_d, Nat.zero_le, Nat.reduceAdd, Nat.reduceLeDiff, true_and, and_true, ykl_i, ykl_r, ykl_n, ykl_l]
                exact Iff.rfl
        have hsk : ysk n B m0 = ysk n B m0 := rfl
        unfold ycmd1
        by_cases h5 : k = 5
        · have ha : al = true := by
            cases al
            · exact absurd ⟨h5, rfl⟩ hal2
            · rfl
          subst h5
          have st := start 0 (if_pos rfl)
          have w0' : w.A 179 (7 * c) = yI 5 := w0
          have H := m_154 (d := d + 2) (T := T) (dep := dep) (HB ha) (hb ha) (show c < 60 by omega) Mw w0'
          have c01 : yI 0 < yI (0 + 1) := by decide
          have c55 : yI 5 = (5 : Int32) := rfl
          have road : ∀ u, Ra (d + 5) 154 [.ref 160, .int (yI (7 * c)), .int (yI dep)] (yemb w) (.inl none) (yemb u) → Gg (d + 6) 153 13 [some (.ref 160), some (.int (yI dep)), l2, l3, l4, l5, l6] [] (yemb t) 102 [some (.ref 160), some (.int (yI dep)), some (.int (yI q)), some (.int (yI 5)), some (.int (yI (7 * c))), some (.int (yI 0)), some (.int (yI (0 + 1)))] [] (yemb u) := by
            intro u hu Q
            refine (st Q).trans ?_
            rw [s_153_80]
            simp only [s_153_1, s_153_2, s_153_3, s_153_4, s_153_5, s_153_6, s_153_7, s_153_8, s_153_9, s_153_10, s_153_11, s_153_12, s_153_13, s_153_14, s_153_15, s_153_16, s_153_17, s_153_18, s_153_19, s_153_20, s_153_21, s_153_22, s_153_23, s_153_24, s_153_25, s_153_26, s_153_27, s_153_28, s_153_29, s_153_30, s_153_31, s_153_32, s_153_33, s_153_34, s_153_35, s_153_36, s_153_37, s_153_38, s_153_39, s_153_40, s_153_41, s_153_42, s_153_43, s_153_44, s_153_45, s_153_46, s_153_47, s_153_48, s_153_49, s_153_50, s_153_51, s_153_52, s_153_53, s_153_54, s_153_55, s_153_56, s_153_57, s_153_58, s_153_59, s_153_59i, s_153_60, s_153_61, s_153_62, s_153_63, s_153_64, s_153_65, s_153_66, s_153_67, s_153_68, s_153_69, s_153_70, s_153_71, s_153_72, s_153_73, s_153_74, s_153_75, s_153_76, s_153_77, s_153_78, s_153_79, s_153_81, s_153_82, s_153_83, s_153_84, s_153_85, s_153_86, s_153_87, s_153_88, s_153_89, s_153_90, s_153_91, s_153_92, s_153_93, s_153_94, s_153_95, s_153_96, s_153_97, s_153_98, s_153_99, s_153_100, s_153_101, s_153_103, s_153_104, s_153_105, s_153_106, yO_160, c01, if_true, c55, ne_eq, not_true_eq_false, if_false, hu, Gk_v, Gk_n, xcat_nil, xcat_i, xcat_r, xcat_l, xcat_d, Nat.zero_le, Nat.reduceAdd, Nat.reduceLeDiff, true_and, and_true, ykl_i, ykl_r, ykl_n, ykl_l]
          cases hr : yrn n B (ynlo 5) (ynhi 5) (ynb 5) 0 (ysk n B m0) (T.2.1 c) with
          | inl e =>
            obtain ⟨e, a⟩ := e
            have hr' : yrn n B 1 20 1 0 (ysk n B m0) (T.2.1 c) = .inl (e, a) := hr
            rw [hr'] at H
            obtain ⟨u, hu, E, Ku⟩ := H
            refine ⟨fun e' a' h => ?_, fun q' c' T' h => ?_⟩
            · have h' : (.inl (e, a) : yPg) = .inl (e', a') := h
              cases h'
              exact ⟨u, fun Q => (road u hu Q).trans (l_153e (d := d + 3) E.1 Q), E, yKde_tr K1c.1 Ku⟩
            · have h' : (.inl (e, a) : yPg) = .inr (q', (c', T')) := h
              cases h'
          | inr z =>
            obtain ⟨q1, r⟩ := z
            have hr' : yrn n B 1 20 1 0 (ysk n B m0) (T.2.1 c) = .inr (q1, r) := hr
            rw [hr'] at H
            have hif : (if 5 = 5 then yrep n B blk q1 c (yTk1 T c 5 r) else .inr (q1, (c + 1, yTe (yTk1 T c 5 r) c (c + 1))) : yPg) = yrep n B blk q1 c (yTk1 T c 5 r) := if_pos rfl
            have H' : yRd (fun u => Ra (d + 2 + 3) 154 [.ref 160, .int (yI (7 * c)), .int (yI dep)] (yemb w) (.inl none) (yemb u)) w n B c (yrep n B blk q1 c (yTk1 T c 5 r)) := H
            rcases hy : yrep n B blk q1 c (yTk1 T c 5 r) with ⟨e, a⟩ | ⟨q2, c2, T2⟩
            · rw [hy] at H'
              obtain ⟨u, hu, E, Ku⟩ := H'
              refine ⟨fun e' a' h => ?_, fun q' c' T' h => ?_⟩
              · have h' : (.inl (e, a) : yPg) = .inl (e', a') := hy.symm.trans (hif.symm.trans h)
                cases h'
                exact ⟨u, fun Q => (road u hu Q).trans (l_153e (d := d + 3) E.1 Q), E, yKde_tr K1c.1 Ku⟩
              · have h' : (.inl (e, a) : yPg) = .inr (q', (c', T')) := hy.symm.trans (hif.symm.trans h)
                cases h'
            · rw [hy] at H'
              obtain ⟨u, m', hu, Mu, hq, Gu, Ku⟩ := H'
              refine ⟨fun e' a' h => ?_, fun q' c' T' h => ?_⟩
              · have h' : (.inr (q2, (c2, T2)) : yPg) = .inl (e', a') := hy.symm.trans (hif.symm.trans h)
                cases h'
              · have h' : (.inr (q2, (c2, T2)) : yPg) = .inr (q', (c', T')) := hy.symm.trans (hif.symm.trans h)
                cases h'
                exact ⟨u, m', _, _, _, _, _, road u hu, Mu, hq, Gu, yKd_tr K1c Ku (Nat.le_refl _)⟩
        · have st := start (ynb k) (if_neg h5)
          have el : ynlo k = 0 := by rw [ynlo, if_neg h5]
          have eh : ynhi k = 9999 := by rw [ynhi, if_neg h5]
          have c5 : ¬ yI k = 5 := fun h => h5 ((yI_inj (m := 5) (by omega) (by decide)).mp h)
          obtain ⟨r1, r2⟩ := l_153n (d := d + 3) (c := c) (x1 := yI dep) (x2 := yI q) (x3 := yI k) (ynb_le k) (by omega) (ynb k) 0 m0 (T.2.1 c) w (Nat.zero_add _) Mw
          have to102 : ∀ u, G (d + 6) 153 95 [some (.ref 160), some (.int (yI dep)), some (.int (yI q)), some (.int (yI k)), some (.int (yI (7 * c))), some (.int (yI (ynb k))), some (.int (yI (ynb k + 1)))] [] (yemb u) = G (d + 6) 153 95 [some (.ref 160), some (.int (yI dep)), some (.int (yI q)), some (.int (yI k)), some (.int (yI (7 * c))), some (.int (yI (ynb k))), some (.int (yI (ynb k + 1)))] [] (yemb u) := fun _ => rfl
          have on : ∀ u Q, G (d + 6) 153 95 [some (.ref 160), some (.int (yI dep)), some (.int (yI q)), some (.int (yI k)), some (.int (yI (7 * c))), some (.int (yI (ynb k))), some (.int (yI (ynb k + 1)))] [] (yemb u) Q ↔ G (d + 6) 153 102 [some (.ref 160), some (.int (yI dep)), some (.int (yI q)), some (.int (yI k)), some (.int (yI (7 * c))), some (.int (yI (ynb k))), some (.int (yI (ynb k + 1)))] [] (yemb u) Q := by
            intro u Q
            rw [s_153_95]
            simp only [s_153_1, s_153_2, s_153_3, s_153_4, s_153_5, s_153_6, s_153_7, s_153_8, s_153_9, s_153_10, s_153_11, s_153_12, s_153_13, s_153_14, s_153_15, s_153_16, s_153_17, s_153_18, s_153_19, s_153_20, s_153_21, s_153_22, s_153_23, s_153_24, s_153_25, s_153_26, s_153_27, s_153_28, s_153_29, s_153_30, s_153_31, s_153_32, s_153_33, s_153_34, s_153_35, s_153_36, s_153_37, s_153_38, s_153_39, s_153_40, s_153_41, s_153_42, s_153_43, s_153_44, s_153_45, s_153_46, s_153_47, s_153_48, s_153_49, s_153_50, s_153_51, s_153_52, s_153_53, s_153_54, s_153_55, s_153_56, s_153_57, s_153_58, s_153_59, s_153_59i, s_153_60, s_153_61, s_153_62, s_153_63, s_153_64, s_153_65, s_153_66, s_153_67, s_153_68, s_153_69, s_153_70, s_153_71, s_153_72, s_153_73, s_153_74, s_153_75, s_153_76, s_153_77, s_153_78, s_153_79, s_153_81, s_153_82, s_153_83, s_153_84, s_153_85, s_153_86, s_153_87, s_153_88, s_153_89, s_153_90, s_153_91, s_153_92, s_153_93, s_153_94, s_153_96, s_153_97, s_153_98, s_153_99, s_153_100, s_153_101, s_153_103, s_153_104, s_153_105, s_153_106, c5, ne_eq, not_false_eq_true, if_true, Gk_v, Gk_n, xcat_nil, xcat_i, xcat_r, xcat_l, xcat_d, Nat.zero_le, Nat.reduceAdd, Nat.reduceLeDiff, true_and, and_true, ykl_i, ykl_r, ykl_n, ykl_l]
          rw [el, eh]
          cases hr : yrn n B 0 9999 (ynb k) 0 (ysk n B m0) (T.2.1 c) with
          | inl e =>
            obtain ⟨e, a⟩ := e
            obtain ⟨u, hu, E, Ku⟩ := r1 e a hr
            refine ⟨fun e' a' h => ?_, fun q' c' T' h => ?_⟩
            · have h' : (.inl (e, a) : yPg) = .inl (e', a') := h
              cases h'
              exact ⟨u, fun Q => (st Q).trans ((hu Q).trans ((on u Q).trans (l_153e (d := d + 3) E.1 Q))), E, yKde_tr K1c.1 Ku⟩
            · have h' : (.inl (e, a) : yPg) = .inr (q', (c', T')) := h
              cases h'
          | inr z =>
            obtain ⟨q1, r⟩ := z
            obtain ⟨u, m', hu, Mu, hq, hn, h0, Ku⟩ := r2 q1 r hr (fun j hj => absurd hj (Nat.not_lt_zero _))
            have hif : (if k = 5 then yrep n B blk q1 c (yTk1 T c k r) else .inr (q1, (c + 1, yTe (yTk1 T c k r) c (c + 1))) : yPg) = .inr (q1, (c + 1, yTe (yTk1 T c k r) c (c + 1))) := if_neg h5
            refine ⟨fun e' a' h => ?_, fun q' c' T' h => ?_⟩
            · have h' : (.inr (q1, (c + 1, yTe (yTk1 T c k r) c (c + 1))) : yPg) = .inl (e', a') := hif.symm.trans h
              cases h'
            · have h' : (.inr (q1, (c + 1, yTe (yTk1 T c k r) c (c + 1))) : yPg) = .inr (q', (c', T')) := hif.symm.trans h
              cases h'
              refine ⟨u, m', _, _, _, _, _, fun Q => (st Q).trans ((hu Q).trans (on u Q)), Mu, hq, fun i hi1 hi2 => ?_, yKd_tr K1c Ku (Nat.le_refl _)⟩
              obtain rfl : i = c := by omega
              have hTK : (yTe (yTk1 T i k r) i (i + 1)).1 i = k := yup_same
              have hTN : (yTe (yTk1 T i k r) i (i + 1)).2.1 i = r := if_pos rfl
              rw [hTK, hTN]
              exact ⟨by rw [h0]; exact w0, hn, fun h => absurd h h5⟩
theorem l_153 {cmd : Nat → Nat → yTb → yPg} {ins : Bool} (hins : ins = decide (¬ dep = 0)) (hd3 : dep ≤ 3) (HC : ∀ (t : yT) (q c : Nat) (T : yTb) (l2 l3 l4 l5 l6 : Option Value), yMc t n B q c → ysk n B q = q → c ≤ 60 → (∀ e a, cmd q c T = .inl (e, a) → ∃ u, Ga (d + 6) 153 13 [some (.ref 160), some (.int (yI dep)), l2, l3, l4, l5, l6] [] (yemb t) (.inl none) (yemb u) ∧ (yEr u e a ∧ yKde t u))
    ∧ (∀ q' c' T', cmd q c T = .inr (q', (c', T')) → ∃ (u : yT) (m' : Nat) (l2' l3' l4' l5' l6' : Option Value), Gg (d + 6) 153 13 [some (.ref 160), some (.int (yI dep)), l2, l3, l4, l5, l6] [] (yemb t) 102 [some (.ref 160), some (.int (yI dep)), l2', l3', l4', l5', l6'] [] (yemb u) ∧ (yMc u n B m' c' ∧ (ysk n B m' = q' ∧ (yGm u c c' T' ∧ yKd t u c)))))
    (hcmd : ∀ q c T q' c' T', q ≤ n → c ≤ 60 → cmd q c T = .inr (q', (c', T')) → ((q < q' ∧ q' ≤ n) ∧ (c < c' ∧ c' ≤ 60)) ∧ yagr 0 c T T') (hblk : ∀ m q c T q' c' T', q ≤ n → c ≤ 60 → ycms n B cmd ins m q c T = .inr (q', (c', T')) → (c ≤ c' ∧ c' ≤ 60) ∧ yagr 0 c T T') : ∀ f (t : yT) (m c : Nat) (T : yTb) (l2 l3 l4 l5 l6 : Option Value), n - ysk n B m ≤ f → yMc t n B m c → c ≤ 60 → yRd (fun u => Ga (d + 6) 153 0 [some (.ref 160), some (.int (yI dep)), l2, l3, l4, l5, l6] [] (yemb t) (.inl none) (yemb u)) t n B c (ycms n B cmd ins f (ysk n B m) c T) := by
  have fin : ∀ (t : yT) (m c : Nat) (T : yTb) (l2 l3 l4 l5 l6 : Option Value), yMc t n B m c → (n ≤ ysk n B m ∨ (ins = true ∧ yat n B (ysk n B m) 41 = true)) → yRd (fun u => Ga (d + 6) 153 0 [some (.ref 160), some (.int (yI dep)), l2, l3, l4, l5, l6] [] (yemb t) (.inl none) (yemb u)) t n B c (.inr (ysk n B m, (c, T))) := by
    intro t m c T l2 l3 l4 l5 l6 M hs
    have hid := ysk_idem (n := n) (B := B) M.2.1
    have hY := yYt_b M.1
    have g132 := c_132 (d := d + 5) M
    have c10 : ¬ (1 : Int32) = 0 := by decide
    obtain ⟨u1, h1, M1, K1⟩ := c_131 (d := d + 4) (c0 := c) M
    obtain ⟨u2, h2, M2, K2⟩ := c_131 (d := d + 4) (c0 := c) M1
    rw [hid] at h2 M2
    generalize ysk n B m = q at *
    by_cases hn : n ≤ q
    · have e : ybt n B q = -1 := by
        unfold ybt
        rw [if_neg (by omega)]
      rw [e] at h1
      refine ⟨u1, q, fun Q => ?_, M1, hid, fun i g1 g2 => by omega, K1⟩
      rw [s_153_0]
      simp only [s_153_1, s_153_2, s_153_3, s_153_4, s_153_5, s_153_6, s_153_7, s_153_8, s_153_9, s_153_10, s_153_11, s_153_12, s_153_14, s_153_15, s_153_16, s_153_17, s_153_18, s_153_19, s_153_20, s_153_21, s_153_22, s_153_23, s_153_24, s_153_25, s_153_26, s_153_27, s_153_28, s_153_29, s_153_30, s_153_31, s_153_32, s_153_33, s_153_34, s_153_35, s_153_36, s_153_37, s_153_38, s_153_39, s_153_40, s_153_41, s_153_42, s_153_43, s_153_44, s_153_45, s_153_46, s_153_47, s_153_48, s_153_49, s_153_50, s_153_51, s_153_52, s_153_53, s_153_54, s_153_55, s_153_56, s_153_57, s_153_58, s_153_59, s_153_59i, s_153_60, s_153_61, s_153_62, s_153_63, s_153_64, s_153_65, s_153_66, s_153_67, s_153_68, s_153_69, s_153_70, s_153_71, s_153_72, s_153_73, s_153_74, s_153_75, s_153_76, s_153_77, s_153_78, s_153_79, s_153_80, s_153_81, s_153_82, s_153_83, s_153_84, s_153_85, s_153_86, s_153_87, s_153_88, s_153_89, s_153_90, s_153_91, s_153_92, s_153_93, s_153_94, s_153_95, s_153_96, s_153_97, s_153_98, s_153_99, s_153_100, s_153_101, s_153_102, s_153_103, s_153_104, s_153_105, s_153_106, yO_160, g132, c10, if_false, h1, if_true, Gk_v, Gk_n, xcat_nil, xcat_i, xcat_r, xcat_l, xcat_d, Nat.zero_le, Nat.reduceAdd, Nat.reduceLeDiff, true_and, and_true, ykl_i, ykl_r, ykl_n, ykl_l]
    · have h41 := hs.resolve_left hn
      have hd0 : ¬ yI dep = 0 := fun h => by
        have h' := (yI_inj (m := 0) (by omega) (by decide)).mp h
        rw [h41.1] at hins
        exact of_decide_eq_true hins.symm h'
      have e := ybt_ye hY (c := 41) (by decide) h41.2
      have e' : ybt n B q = 41 := e
      rw [e'] at h1 h2
      have cm : ¬ (41 : Int32) = -1 := by decide
      refine ⟨u2, q, fun Q => ?_, M2, hid, fun i g1 g2 => by omega, yKd_tr K1 K2 (Nat.le_refl _)⟩
      rw [s_153_0]
      simp only [s_153_1, s_153_2, s_153_3, s_153_4, s_153_5, s_153_6, s_153_7, s_153_8, s_153_9, s_153_10, s_153_11, s_153_12, s_153_14, s_153_15, s_153_16, s_153_17, s_153_18, s_153_19, s_153_20, s_153_21, s_153_22, s_153_23, s_153_24, s_153_25, s_153_26, s_153_27, s_153_28, s_153_29, s_153_30, s_153_31, s_153_32, s_153_33, s_153_34, s_153_35, s_153_36, s_153_37, s_153_38, s_153_39, s_153_40, s_153_41, s_153_42, s_153_43, s_153_44, s_153_45, s_153_46, s_153_47, s_153_48, s_153_49, s_153_50, s_153_51, s_153_52, s_153_53, s_153_54, s_153_55, s_153_56, s_153_57, s_153_58, s_153_59, s_153_59i, s_153_60, s_153_61, s_153_62, s_153_63, s_153_64, s_153_65, s_153_66, s_153_67, s_153_68, s_153_69, s_153_70, s_153_71, s_153_72, s_153_73, s_153_74, s_153_75, s_153_76, s_153_77, s_153_78, s_153_79, s_153_80, s_153_81, s_153_82, s_153_83, s_153_84, s_153_85, s_153_86, s_153_87, s_153_88, s_153_89, s_153_90, s_153_91, s_153_92, s_153_93, s_153_94, s_153_95, s_153_96, s_153_97, s_153_98, s_153_99, s_153_100, s_153_101, s_153_102, s_153_103, s_153_104, s_153_105, s_153_106, yO_160, g132, c10, if_false, h1, h2, cm, hd0, if_true, Gk_v, Gk_n, xcat_nil, xcat_i, xcat_r, xcat_l, xcat_d, Nat.zero_le, Nat.reduceAdd, Nat.reduceLeDiff, true_and, and_true, ykl_i, ykl_r, ykl_n, ykl_l]
  intro f
  induction f with
  | zero =>
    intro t m c T l2 l3 l4 l5 l6 hm M hc
    exact fin t m c T l2 l3 l4 l5 l6 M (Or.inl (by omega))
  | succ f ih =>
    intro t m c T l2 l3 l4 l5 l6 hm M hc
    have hsk := ysk_le (n := n) (B := B) M.2.1
    rw [ycms]
    by_cases hs : n ≤ ysk n B m ∨ (ins = true ∧ yat n B (ysk n B m) 41 = true)
    · rw [if_pos hs]
      exact fin t m c T l2 l3 l4 l5 l6 M hs
    · rw [if_neg hs]
      have hid := ysk_idem (n := n) (B := B) M.2.1
      have hY := yYt_b M.1
      have g132 := c_132 (d := d + 5) M
      have c10 : ¬ (1 : Int32) = 0 := by decide
      obtain ⟨u1, h1, M1, K1⟩ := c_131 (d := d + 4) (c0 := c) M
      obtain ⟨u2, h2, M2, K2⟩ := c_131 (d := d + 4) (c0 := c) M1
      rw [hid] at h2 M2
      generalize ysk n B m = q at *
      have hn : q < n := by
        by_cases h : n ≤ q
        · exact absurd (Or.inl h) hs
        · omega
      have hb := hY q hn
      have em : ¬ ybt n B q = -1 := by
        unfold ybt
        rw [if_pos hn]
        intro h
        have := yI_nneg (n := B q) (by omega)
        rw [h] at this
        exact this (by decide)
      -- the loop is entered
      obtain ⟨u0, M0, K0, enter⟩ : ∃ u0, yMc u0 n B q c ∧ (yKd t u0 c ∧ ∀ Q, G (d + 6) 153 0 [some (.ref 160), some (.int (yI dep)), l2, l3, l4, l5, l6] [] (yemb t) Q ↔ G (d + 6) 153 13 [some (.ref 160), some (.int (yI dep)), l2, l3, l4, l5, l6] [] (yemb u0) Q) := by
        by_cases hd0 : yI dep = 0
        · refine ⟨u1, M1, K1, fun Q => ?_⟩
          rw [s_153_0]
          simp only [s_153_1, s_153_2, s_153_3, s_153_4, s_153_5, s_153_6, s_153_7, s_153_8, s_153_9, s_153_10, s_153_11, s_153_12, s_153_14, s_153_15, s_153_16, s_153_17, s_153_18, s_153_19, s_153_20, s_153_21, s_153_22, s_153_23, s_153_24, s_153_25, s_153_26, s_153_27, s_153_28, s_153_29, s_153_30, s_153_31, s_153_32, s_153_33, s_153_34, s_153_35, s_153_36, s_153_37, s_153_38, s_153_39, s_153_40, s_153_41, s_153_42, s_153_43, s_153_44, s_153_45, s_153_46, s_153_47, s_153_48, s_153_49, s_153_50, s_153_51, s_153_52, s_153_53, s_153_54, s_153_55, s_153_56, s_153_57, s_153_58, s_153_59, s_153_59i, s_153_60, s_153_61, s_153_62, s_153_63, s_153_64, s_153_65, s_153_66, s_153_67, s_153_68, s_153_69, s_153_70, s_153_71, s_153_72, s_153_73, s_153_74, s_153_75, s_153_76, s_153_77, s_153_78, s_153_79, s_153_80, s_153_81, s_153_82, s_153_83, s_153_84, s_153_85, s_153_86, s_153_87, s_153_88, s_153_89, s_153_90, s_153_91, s_153_92, s_153_93, s_153_94, s_153_95, s_153_96, s_153_97, s_153_98, s_153_99, s_153_100, s_153_101, s_153_102, s_153_103, s_153_104, s_153_105, s_153_106, yO_160, g132, c10, if_false, h1, em, hd0, if_true, Gk_v, Gk_n, xcat_nil, xcat_i, xcat_r, xcat_l, xcat_d, Nat.zero_le, Nat.reduceAdd, Nat.reduceLeDiff, true_and, and_true, ykl_i, ykl_r, ykl_n, ykl_l]
        · have hi : ins = true := by
            rw [hins]
            exact decide_eq_true (fun h => hd0 (by rw [h]; rfl))
          have h41 : yat n B q 41 = false := by
            cases hx : yat n B q 41
            · rfl
            · exact absurd (Or.inr ⟨hi, hx⟩) hs
          have e41 : ¬ ybt n B q = 41 := ybt_no hY (c := 41) (by decide) h41
          refine ⟨u2, M2, yKd_tr K1 K2 (Nat.le_refl _), fun Q => ?_⟩
          rw [s_153_0]
          simp only [s_153_1, s_153_2, s_153_3, s_153_4, s_153_5, s_153_6, s_153_7, s_153_8, s_153_9, s_153_10, s_153_11, s_153_12, s_153_14, s_153_15, s_153_16, s_153_17, s_153_18, s_153_19, s_153_20, s_153_21, s_153_22, s_153_23, s_153_24, s_153_25, s_153_26, s_153_27, s_153_28, s_153_29, s_153_30, s_153_31, s_153_32, s_153_33, s_153_34, s_153_35, s_153_36, s_153_37, s_153_38, s_153_39, s_153_40, s_153_41, s_153_42, s_153_43, s_153_44, s_153_45, s_153_46, s_153_47, s_153_48, s_153_49, s_153_50, s_153_51, s_153_52, s_153_53, s_153_54, s_153_55, s_153_56, s_153_57, s_153_58, s_153_59, s_153_59i, s_153_60, s_153_61, s_153_62, s_153_63, s_153_64, s_153_65, s_153_66, s_153_67, s_153_68, s_153_69, s_153_70, s_153_71, s_153_72, s_153_73, s_153_74, s_153_75, s_153_76, s_153_77, s_153_78, s_153_79, s_153_80, s_153_81, s_153_82, s_153_83, s_153_84, s_153_85, s_153_86, s_153_87, s_153_88, s_153_89, s_153_90, s_153_91, s_153_92, s_153_93, s_153_94, s_153_95, s_153_96, s_153_97, s_153_98, s_153_99, s_153_100, s_153_101, s_153_102, s_153_103, s_153_104, s_153_105, s_153_106, yO_160, g132, c10, if_false, h1, h2, em, e41, hd0, Gk_v, Gk_n, xcat_nil, xcat_i, xcat_r, xcat_l, xcat_d, Nat.zero_le, Nat.reduceAdd, Nat.reduceLeDiff, true_and, and_true, ykl_i, ykl_r, ykl_n, ykl_l]
      obtain ⟨r1, r2⟩ := HC u0 q c T l2 l3 l4 l5 l6 M0 hid hc
      rcases hr : cmd q c T with ⟨e, a⟩ | ⟨q1, c1, T1⟩
      · obtain ⟨u, hu, E, Ku⟩ := r1 e a hr
        exact ⟨u, fun Q => (enter Q).trans (hu Q), E, yKde_tr K0.1 Ku⟩
      · obtain ⟨⟨a1, a2⟩, a3⟩ := hcmd _ _ _ _ _ _ hsk.2 hc hr
        obtain ⟨u, m', k2, k3, k4, k5, k6, hu, Mu, hq1, Gu, Ku⟩ := r2 q1 c1 T1 hr
        subst hq1
        have K0u := yKd_tr K0 Ku (Nat.le_refl _)
        show yRd _ t n B c (if yat n B (ysk n B m') 59 = true then ycms n B cmd ins f (ysk n B (ysk n B m' + 1)) c1 T1 else .inl (-2, ysk n B m'))
        cases h59 : yat n B (ysk n B m') 59
        · rw [if_neg (by decide)]
          obtain ⟨w, hw, E, Kw⟩ := c_136f (d := d + 3) Mu (x := 59) (by decide) h59
          have hw' : ∀ Q', Cl (d + 5) 136 [.ref 160, .int 59] (yemb u) Q' ↔ Q' (.inl none) (yemb w) := hw
          have g132n := w_132n (d := d + 5) E.1
          refine ⟨w, fun Q => (enter Q).trans ((hu Q).trans ?_), E, yKde_tr K0u.1 Kw⟩
          have g0 : G (d + 6) 153 0 [some (.ref 160), some (.int (yI dep)), k2, k3, k4, k5, k6] [] (yemb w) Q ↔ Q (.inl none) (yemb w) := by
            rw [s_153_0]
            simp only [s_153_1, s_153_2, s_153_3, s_153_4, s_153_5, s_153_6, s_153_7, s_153_8, s_153_9, s_153_10, s_153_11, s_153_12, s_153_14, s_153_15, s_153_16, s_153_17, s_153_18, s_153_19, s_153_20, s_153_21, s_153_22, s_153_23, s_153_24, s_153_25, s_153_26, s_153_27, s_153_28, s_153_29, s_153_30, s_153_31, s_153_32, s_153_33, s_153_34, s_153_35, s_153_36, s_153_37, s_153_38, s_153_39, s_153_40, s_153_41, s_153_42, s_153_43, s_153_44, s_153_45, s_153_46, s_153_47, s_153_48, s_153_49, s_153_50, s_153_51, s_153_52, s_153_53, s_153_54, s_153_55, s_153_56, s_153_57, s_153_58, s_153_59, s_153_59i, s_153_60, s_153_61, s_153_62, s_153_63, s_153_64, s_153_65, s_153_66, s_153_67, s_153_68, s_153_69, s_153_70, s_153_71, s_153_72, s_153_73, s_153_74, s_153_75, s_153_76, s_153_77, s_153_78, s_153_79, s_153_80, s_153_81, s_153_82, s_153_83, s_153_84, s_153_85, s_153_86, s_153_87, s_153_88, s_153_89, s_153_90, s_153_91, s_153_92, s_153_93, s_153_94, s_153_95, s_153_96, s_153_97, s_153_98, s_153_99, s_153_100, s_153_101, s_153_102, s_153_103, s_153_104, s_153_105, s_153_106, yO_160, g132n, if_true, Gk_v, Gk_n, xcat_nil, xcat_i, xcat_r, xcat_l, xcat_d, Nat.zero_le, Nat.reduceAdd, Nat.reduceLeDiff, true_and, and_true, ykl_i, ykl_r, ykl_n, ykl_l]
          rw [s_153_102]
          simp only [s_153_1, s_153_2, s_153_3, s_153_4, s_153_5, s_153_6, s_153_7, s_153_8, s_153_9, s_153_10, s_153_11, s_153_12, s_153_14, s_153_15, s_153_16, s_153_17, s_153_18, s_153_19, s_153_20, s_153_21, s_153_22, s_153_23, s_153_24, s_153_25, s_153_26, s_153_27, s_153_28, s_153_29, s_153_30, s_153_31, s_153_32, s_153_33, s_153_34, s_153_35, s_153_36, s_153_37, s_153_38, s_153_39, s_153_40, s_153_41, s_153_42, s_153_43, s_153_44, s_153_45, s_153_46, s_153_47, s_153_48, s_153_49, s_153_50, s_153_51, s_153_52, s_153_53, s_153_54, s_153_55, s_153_56, s_153_57, s_153_58, s_153_59, s_153_59i, s_153_60, s_153_61, s_153_62, s_153_63, s_153_64, s_153_65, s_153_66, s_153_67, s_153_68, s_153_69, s_153_70, s_153_71, s_153_72, s_153_73, s_153_74, s_153_75, s_153_76, s_153_77, s_153_78, s_153_79, s_153_80, s_153_81, s_153_82, s_153_83, s_153_84, s_153_85, s_153_86, s_153_87, s_153_88, s_153_89, s_153_90, s_153_91, s_153_92, s_153_93, s_153_94, s_153_95, s_153_96, s_153_97, s_153_98, s_153_99, s_153_100, s_153_101, s_153_103, s_153_104, s_153_105, s_153_106, yO_160, hw', g0, Gk_v, Gk_n, xcat_nil, xcat_i, xcat_r, xcat_l, xcat_d, Nat.zero_le, Nat.reduceAdd, Nat.reduceLeDiff, true_and, and_true, ykl_i, ykl_r, ykl_n, ykl_l]
        · rw [if_pos rfl]
          obtain ⟨w, hw, Mw, Kw, e9⟩ := c_136 (d := d + 3) (c0 := c1) Mu (x := 59) (by decide) h59
          have hw' : ∀ Q', Cl (d + 5) 136 [.ref 160, .int 59] (yemb u) Q' ↔ Q' (.inl none) (yemb w) := hw
          have hg59 := yat_go h59
          have H2 := ih w (ysk n B m' + 1) c1 T1 k2 k3 k4 k5 k6 (by omega) Mw a2.2
          have step : ∀ Q, G (d + 6) 153 0 [some (.ref 160), some (.int (yI dep)), l2, l3, l4, l5, l6] [] (yemb t) Q ↔ G (d + 6) 153 0 [some (.ref 160), some (.int (yI dep)), k2, k3, k4, k5, k6] [] (yemb w) Q := by
            intro Q
            refine (enter Q).trans ((hu Q).trans ?_)
            rw [s_153_102]
            simp only [s_153_1, s_153_2, s_153_3, s_153_4, s_153_5, s_153_6, s_153_7, s_153_8, s_153_9, s_153_10, s_153_11, s_153_12, s_153_14, s_153_15, s_153_16, s_153_17, s_153_18, s_153_19, s_153_20, s_153_21, s_153_22, s_153_23, s_153_24, s_153_25, s_153_26, s_153_27, s_153_28, s_153_29, s_153_30, s_153_31, s_153_32, s_153_33, s_153_34, s_153_35, s_153_36, s_153_37, s_153_38, s_153_39, s_153_40, s_153_41, s_153_42, s_153_43, s_153_44, s_153_45, s_153_46, s_153_47, s_153_48, s_153_49, s_153_50, s_153_51, s_153_52, s_153_53, s_153_54, s_153_55, s_153_56, s_153_57, s_153_58, s_153_59, s_153_59i, s_153_60, s_153_61, s_153_62, s_153_63, s_153_64, s_153_65, s_153_66, s_153_67, s_153_68, s_153_69, s_153_70, s_153_71, s_153_72, s_153_73, s_153_74, s_153_75, s_153_76, s_153_77, s_153_78, s_153_79, s_153_80, s_153_81, s_153_82, s_153_83, s_153_84, s_153_85, s_153_86, s_153_87, s_153_88, s_153_89, s_153_90, s_153_91, s_153_92, s_153_93, s_153_94, s_153_95, s_153_96, s_153_97, s_153_98, s_153_99, s_153_100, s_153_101, s_153_103, s_153_104, s_153_105, s_153_106, yO_160, hw', Gk_v, Gk_n, xcat_nil, xcat_i, xcat_r, xcat_l, xcat_d, Nat.zero_le, Nat.reduceAdd, Nat.reduceLeDiff, true_and, and_true, ykl_i, ykl_r, ykl_n, ykl_l]
          rcases hr2 : ycms n B cmd ins f (ysk n B (ysk n B m' + 1)) c1 T1 with ⟨e, a⟩ | ⟨q2, c2, T2⟩
          · rw [hr2] at H2
            obtain ⟨y, hy, E, Ky⟩ := H2
            exact ⟨y, fun Q => (step Q).trans (hy Q), E, yKde_tr (yKde_tr K0u.1 Kw.1) Ky⟩
          · obtain ⟨b2, b3⟩ := hblk _ _ _ _ _ _ _ hg59.2 a2.2 hr2
            rw [hr2] at H2
            obtain ⟨y, m2, hy, My, hm2, Gy, Ky⟩ := H2
            refine ⟨y, m2, fun Q => (step Q).trans (hy Q), My, hm2, fun i hi1 hi2 => ?_, yKd_tr (yKd_tr K0u Kw (by omega)) Ky (by omega)⟩
            by_cases hi : i < c1
            · obtain ⟨f1, f2, f3⟩ := Gu i hi1 hi
              obtain ⟨e1, e2, e3⟩ := b3 i (Nat.zero_le _) hi
              rw [e1, e2, e3]
              refine ⟨?_, fun j hj => ?_, fun h5 => ?_⟩
              · rw [Ky.2 _ (by omega), e9]; exact f1
              · have := ynb_le (T1.1 i)
                rw [Ky.2 _ (by omega), e9]; exact f2 j hj
              · rw [Ky.2 _ (by omega), e9]; exact f3 h5
            · exact Gy i (by omega) hi2
/-- blocks of every nesting -/
theorem m_153K : ∀ k, k ≤ 3 → ∀ ins, ins = decide (¬ (3 - k = 0)) → yBd (d + 6 + 2 * k) (3 - k) n B (ycms n B (ycmK n B k) ins n) := by
  intro k
  induction k with
  | zero =>
    intro _ ins hins t m c T M hc
    exact l_153 (d := d) (dep := 3) (cmd := ycmK n B 0) hins (Nat.le_refl _) (fun t q c T l2 l3 l4 l5 l6 M hid hc => l_153c (d := d) (al := false) (dep := 3) (W := fun _ _ _ => False) (by decide) (Nat.le_refl _) (fun h => by cases h) (fun h => by cases h) M hid hc) (fun q c T q' c' T' h1 h2 h3 => ⟨(ycmK_ok 0 q c T q' c' T' h1 h2 h3).1, (ycmK_ok 0 q c T q' c' T' h1 h2 h3).2.1⟩) (fun m q c T q' c' T' h1 h2 h3 => ⟨(yblk_ok (ins := ins) 0 m q c T q' c' T' h1 h2 h3).1.2, (yblk_ok (ins := ins) 0 m q c T q' c' T' h1 h2 h3).2.1⟩) n t m c T none none none none none (by omega) M hc
  | succ k ih =>
    intro hk ins hins t m c T M hc
    have HBk := ih (by omega) true (decide_eq_true (show ¬ (3 - k = 0) by omega)).symm
    have HB : yBd (d + 2 + 2 * k + 4) (3 - (k + 1) + 1) n B (ycms n B (ycmK n B k) true n) := by
      rw [show d + 2 + 2 * k + 4 = d + 6 + 2 * k by omega, show 3 - (k + 1) + 1 = 3 - k by omega]
      exact HBk
    have H := l_153 (d := d + 2 + 2 * k) (n := n) (B := B) (dep := 3 - (k + 1)) (cmd := ycmK n B (k + 1)) hins (by omega) (fun t q c T l2 l3 l4 l5 l6 M hid hc => l_153c (d := d + 2 + 2 * k) (blk := ycms n B (ycmK n B k) true n) (al := true) (dep := 3 - (k + 1)) (W := fun T lo hi => ywfK T k lo hi) (decide_eq_true (show 3 - (k + 1) < 3 by omega)).symm (by omega) (fun _ => HB) (fun _ => yblk_ok k n) M hid hc) (fun q c T q' c' T' h1 h2 h3 => ⟨(ycmK_ok (k + 1) q c T q' c' T' h1 h2 h3).1, (ycmK_ok (k + 1) q c T q' c' T' h1 h2 h3).2.1⟩) (fun m q c T q' c' T' h1 h2 h3 => ⟨(yblk_ok (ins := ins) (k + 1) m q c T q' c' T' h1 h2 h3).1.2, (yblk_ok (ins := ins) (k + 1) m q c T q' c' T' h1 h2 h3).2.1⟩) n t m c T none none none none none (by omega) M hc
    rw [show d + 2 + 2 * k + 6 = d + 6 + 2 * (k + 1) by omega] at H
    exact H
/-- a whole script, read by the model -/
theorem m_153 (M : yMc t n B 0 0) : yRd (fun u => Ra (d + 12) 153 [.ref 160, .int 0] (yemb t) (.inl none) (yemb u)) t n B 0 (yrun n B) :=
  m_153K (d := d) (n := n) (B := B) 3 (Nat.le_refl _) false (by decide) t 0 0 yT0 M (by decide)
end

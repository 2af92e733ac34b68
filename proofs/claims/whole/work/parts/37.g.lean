/-! ===== a color that is sent: the model ===== -/
theorem ycp_lt {g : Nat → Int32} : ∀ n j, j < n → ycp g j < ycp g n := by
  intro n
  induction n with
  | zero => intro j h; omega
  | succ n ih =>
    intro j h
    have h1 : ycp g n < ycp g (n + 1) := by
      simp only [ycp]
      split <;> omega
    by_cases e : j = n
    · rw [e]
      exact h1
    · have := ih j (by omega)
      omega
theorem ycp_le {g : Nat → Int32} : ∀ n, ycp g n ≤ 2 * n := by
  intro n
  induction n with
  | zero => exact Nat.le_refl _
  | succ n ih =>
    simp only [ycp]
    split <;> omega
theorem yJ_of (x : Int32) : x.toInt64 = Int64.ofInt x.toInt := by
  apply Int64.toInt_inj.mp
  have h1 := x.toInt_lt
  have h2 := x.le_toInt
  rw [Int32.toInt_toInt64, yJ_toInt (by omega)]
theorem yc2 {c : Int32} (h1 : -2 ≤ c) (h2 : c < 0) : c = -1 ∨ c = -2 := by
  have h3 := Int32.le_iff_toInt_le.mp h1
  have h4 := Int32.lt_iff_toInt_lt.mp h2
  have e2 : (-2 : Int32).toInt = -2 := rfl
  have e0 : (0 : Int32).toInt = 0 := rfl
  rw [e2] at h3
  rw [e0] at h4
  rcases (by omega : c.toInt = -1 ∨ c.toInt = -2) with h | h
  · exact Or.inl (Int32.toInt_inj.mp h)
  · exact Or.inr (Int32.toInt_inj.mp h)
theorem vp_updL_same {f : Nat → Int64} {k : Nat} {x : Int64} : vp_updL f k x k = x := if_pos rfl
theorem vp_updL_if {f : Nat → Int64} {k j : Nat} {x : Int64} : vp_updL f k x j = if j = k then x else f j := rfl
section
variable {d : Nat} {D : yD}
theorem l_176 {l x : Nat} (hx : x < 256) (hl : l < 256) (hc : yCok D.cn D.cg) (hn0 : D.cn ≠ 0) : ∀ m j (t : yT) l5, j + m = D.cn → yN (t.A 162) D → (∀ k, k < ydep D.cg j → t.L 180 k = Int64.ofInt (yst D.cg x l j k)) → ∃ u, Ga (d + 2) 176 20 [some (.ref 160), some (.int (yI x)), some (.int (yI l)), some (.int (yI (ydep D.cg j))), some (.int (yI (ycp D.cg j))), l5] [] (yemb t) (.inl (some (.int (yI (ycl255 (yst D.cg x l D.cn 0)))))) (yemb u) ∧ yFr (fun a => a = 180) t u := by
  have hn6 := hc.1
  have hq6 := ycp_le (g := D.cg) D.cn
  have h7 : yix 7 1540 := yix_I (n := 7) (by omega) (by omega)
  have c7 : (7 : Int32).toNatClampNeg = 7 := rfl
  intro m
  induction m with
  | zero =>
    intro j t l5 hj N hw
    have e : j = D.cn := by omega
    have hd : ydep D.cg j = 1 := by
      rcases hc.2.1 with h | h
      · exact absurd h hn0
      · rw [e]
        exact h
    have h4 := hw 0 (by omega)
    rw [e] at h4
    have h1 : yI (ycp D.cg D.cn) ≤ yI (ycp D.cg j) := by
      rw [e]
      exact (yI_le (by omega) (by omega)).mpr (Nat.le_refl _)
    have h3 : yix 0 1200 := yix_I (n := 0) (by omega) (by omega)
    have hs := yst_sm (x := x) (l := l) hc.2.2 (by constructor <;> omega) (by constructor <;> omega) D.cn (Nat.le_refl _) 0
    refine ⟨t, fun Q => ?_, yFr.rfl'⟩
    rw [s_176_20]
    have e0 : (0 : Int64) = Int64.ofInt 0 := rfl
    have e255 : (255 : Int64) = Int64.ofInt 255 := rfl
    unfold ycl255
    by_cases hlt : yst D.cg x l D.cn 0 < 0
    · have g1 : ¬ (0 : Int64) ≤ Int64.ofInt (yst D.cg x l D.cn 0) := by
        rw [e0, Int64.not_le, yJ_lt (by omega) (by omega)]
        exact hlt
      simp only [s_176_0, s_176_1, s_176_2, s_176_3, s_176_4, s_176_5, s_176_6, s_176_7, s_176_8, s_176_9, s_176_10, s_176_11, s_176_12, s_176_13, s_176_14, s_176_15, s_176_16, s_176_17, s_176_18, s_176_19, s_176_21, s_176_22, s_176_23, s_176_24, s_176_25, s_176_26, s_176_27, s_176_28, s_176_29, s_176_30, s_176_31, s_176_32, s_176_33, s_176_34, s_176_35, s_176_36, s_176_37, s_176_38, s_176_39, s_176_40, s_176_41, s_176_42, s_176_43, s_176_44, s_176_45, s_176_46, s_176_47, s_176_48, s_176_49, s_176_50, s_176_51, s_176_52, s_176_53, s_176_54, s_176_55, s_176_56, s_176_57, s_176_58, s_176_59, s_176_60, s_176_61, s_176_62, s_176_63, s_176_64, s_176_65, s_176_66, s_176_67, s_176_68, s_176_69, s_176_70, s_176_71, s_176_72, s_176_73, s_176_74, s_176_75, s_176_76, s_176_77, s_176_78, s_176_79, s_176_80, s_176_81, s_176_82, s_176_83, s_176_84, s_176_85, s_176_86, s_176_87, s_176_88, s_176_89, s_176_90, s_176_91, s_176_92, s_176_93, s_176_94, s_176_95, s_176_96, s_176_97, s_176_98, s_176_99, s_176_100, s_176_101, s_176_102, s_176_103, s_176_104, s_176_105, s_176_106, s_176_107, s_176_108, s_176_109, yO_160, yA_162, yn_162, yA_180, yn_180, h7, c7, N.nc, h1, if_true, h3, ycl0, h4, lg_cmp_ge, lg_cmp_le, g1, hlt, if_false, Gk_v, Gk_n, xcat_nil, xcat_i, xcat_r, xcat_l, xcat_d, Nat.zero_le, Nat.reduceAdd, Nat.reduceLeDiff, true_and, and_true, ykl_i, ykl_r, ykl_n, ykl_l]
      rfl
    · have g1 : (0 : Int64) ≤ Int64.ofInt (yst D.cg x l D.cn 0) := by
        rw [e0, ← Int64.not_lt, yJ_lt (by omega) (by omega)]
        exact hlt
      by_cases hgt : 255 < yst D.cg x l D.cn 0
      · have g2 : ¬ Int64.ofInt (yst D.cg x l D.cn 0) ≤ 255 := by
          rw [e255, Int64.not_le, yJ_lt (by omega) (by omega)]
          exact hgt
        simp only [s_176_0, s_176_1, s_176_2, s_176_3, s_176_4, s_176_5, s_176_6, s_176_7, s_176_8, s_176_9, s_176_10, s_176_11, s_176_12, s_176_13, s_176_14, s_176_15, s_176_16, s_176_17, s_176_18, s_176_19, s_176_21, s_176_22, s_176_23, s_176_24, s_176_25, s_176_26, s_176_27, s_176_28, s_176_29, s_176_30, s_176_31, s_176_32, s_176_33, s_176_34, s_176_35, s_176_36, s_176_37, s_176_38, s_176_39, s_176_40, s_176_41, s_176_42, s_176_43, s_176_44, s_176_45, s_176_46, s_176_47, s_176_48, s_176_49, s_176_50, s_176_51, s_176_52, s_176_53, s_176_54, s_176_55, s_176_56, s_176_57, s_176_58, s_176_59, s_176_60, s_176_61, s_176_62, s_176_63, s_176_64, s_176_65, s_176_66, s_176_67, s_176_68, s_176_69, s_176_70, s_176_71, s_176_72, s_176_73, s_176_74, s_176_75, s_176_76, s_176_77, s_176_78, s_176_79, s_176_80, s_176_81, s_176_82, s_176_83, s_176_84, s_176_85, s_176_86, s_176_87, s_176_88, s_176_89, s_176_90, s_176_91, s_176_92, s_176_93, s_176_94, s_176_95, s_176_96, s_176_97, s_176_98, s_176_99, s_176_100, s_176_101, s_176_102, s_176_103, s_176_104, s_176_105, s_176_106, s_176_107, s_176_108, s_176_109, yO_160, yA_162, yn_162, yA_180, yn_180, h7, c7, N.nc, h1, if_true, h3, ycl0, h4, lg_cmp_ge, lg_cmp_le, g1, g2, hlt, hgt, if_false, Gk_v, Gk_n, xcat_nil, xcat_i, xcat_r, xcat_l, xcat_d, Nat.zero_le, Nat.reduceAdd, Nat.reduceLeDiff, true_and, and_true, ykl_i, ykl_r, ykl_n, ykl_l]
        rfl
      · have g2 : Int64.ofInt (yst D.cg x l D.cn 0) ≤ 255 := by
          rw [e255, ← Int64.not_lt, yJ_lt (by omega) (by omega)]
          exact hgt
        have hv : Int32.ofInt (yst D.cg x l D.cn 0) = yI (yst D.cg x l D.cn 0).toNat := by
          rw [yI_i]
          congr 1
          omega
        simp only [s_176_0, s_176_1, s_176_2, s_176_3, s_176_4, s_176_5, s_176_6, s_176_7, s_176_8, s_176_9, s_176_10, s_176_11, s_176_12, s_176_13, s_176_14, s_176_15, s_176_16, s_176_17, s_176_18, s_176_19, s_176_21, s_176_22, s_176_23, s_176_24, s_176_25, s_176_26, s_176_27, s_176_28, s_176_29, s_176_30, s_176_31, s_176_32, s_176_33, s_176_34, s_176_35, s_176_36, s_176_37, s_176_38, s_176_39, s_176_40, s_176_41, s_176_42, s_176_43, s_176_44, s_176_45, s_176_46, s_176_47, s_176_48, s_176_49, s_176_50, s_176_51, s_176_52, s_176_53, s_176_54, s_176_55, s_176_56, s_176_57, s_176_58, s_176_59, s_176_60, s_176_61, s_176_62, s_176_63, s_176_64, s_176_65, s_176_66, s_176_67, s_176_68, s_176_69, s_176_70, s_176_71, s_176_72, s_176_73, s_176_74, s_176_75, s_176_76, s_176_77, s_176_78, s_176_79, s_176_80, s_176_81, s_176_82, s_176_83, s_176_84, s_176_85, s_176_86, s_176_87, s_176_88, s_176_89, s_176_90, s_176_91, s_176_92, s_176_93, s_176_94, s_176_95, s_176_96, s_176_97, s_176_98, s_176_99, s_176_100, s_176_101, s_176_102, s_176_103, s_176_104, s_176_105, s_176_106, s_176_107, s_176_108, s_176_109, yO_160, yA_162, yn_162, yA_180, yn_180, h7, c7, N.nc, h1, if_true, h3, ycl0, h4, lg_cmp_ge, lg_cmp_le, g1, g2, hlt, hgt, if_false, Int64.toInt32_ofInt, hv, Gk_v, Gk_n, xcat_nil, xcat_i, xcat_r, xcat_l, xcat_d, Nat.zero_le, Nat.reduceAdd, Nat.reduceLeDiff, true_and, and_true, ykl_i, ykl_r, ykl_n, ykl_l]
  | succ m ih =>
    intro j t l5 hj N hw
    have hjn : j < D.cn := by omega
    obtain ⟨⟨hg6, hgt⟩, hd15, hd2⟩ := hc.2.2 j hjn
    obtain ⟨e1, e2⟩ := N.cc j hjn
    have hlt := ycp_lt (g := D.cg) D.cn j hjn
    have hsx : ysm (x : Int) := by constructor <;> omega
    have hsl : ysm (l : Int) := by constructor <;> omega
    have hsm := yst_sm (x := x) (l := l) hc.2.2 hsx hsl j (by omega)
    have h1 : ¬ yI (ycp D.cg D.cn) ≤ yI (ycp D.cg j) := fun h => absurd ((yI_le (by omega) (by omega)).mp h) (by omega)
    have h2 : (340 : Int32) + yI (ycp D.cg j) = yI (340 + ycp D.cg j) := yI_add
    have h3 : yix (yI (340 + ycp D.cg j)) 1540 := yix_I (by omega) (by omega)
    have h4 : (yI (340 + ycp D.cg j)).toNatClampNeg = 340 + ycp D.cg j := yI_clamp (by omega)
    have i1 : yI (ycp D.cg j) + 1 = yI (ycp D.cg j + 1) := yI_add
    have i2 : yI (ycp D.cg j + 1) + 1 = yI (ycp D.cg j + 2) := yI_add
    have h5 : (340 : Int32) + yI (ycp D.cg j + 1) = yI (340 + ycp D.cg j + 1) := yI_add
    by_cases hp : -2 ≤ D.cg j
    · have hdep : ydep D.cg (j + 1) = ydep D.cg j + 1 := by
        simp only [ydep, hp, if_true]
      have hcp : ycp D.cg (j + 1) = ycp D.cg j + 2 := by
        simp only [ycp, hp, if_true]
      have hlt2 : ycp D.cg (j + 1) ≤ ycp D.cg D.cn := by
        by_cases e : j + 1 = D.cn
        · rw [e]
          exact Nat.le_refl _
        · exact Nat.le_of_lt (ycp_lt (g := D.cg) D.cn (j + 1) (by omega))
      have h6 : yix (yI (340 + ycp D.cg j + 1)) 1540 := yix_I (by omega) (by omega)
      have h8 : (yI (340 + ycp D.cg j + 1)).toNatClampNeg = 340 + ycp D.cg j + 1 := yI_clamp (by omega)
      have h9 : yix (yI (ydep D.cg j)) 1200 := yix_I (by omega) (by omega)
      have h10 : (yI (ydep D.cg j)).toNatClampNeg = ydep D.cg j := yI_clamp (by omega)
      have h11 : yI (ydep D.cg j) + 1 = yI (ydep D.cg j + 1) := yI_add
      have e2 := e2 hp
      have key : ∀ (v : Int64) l5', v = Int64.ofInt (yitem (D.cg j) x l) → ∃ u, Ga (d + 2) 176 20 [some (.ref 160), some (.int (yI x)), some (.int (yI l)), some (.int (yI (ydep D.cg j + 1))), some (.int (yI (ycp D.cg j + 2))), l5'] [] (yemb (t.sL 180 (ydep D.cg j) v)) (.inl (some (.int (yI (ycl255 (yst D.cg x l D.cn 0)))))) (yemb u) ∧ yFr (fun a => a = 180) (t.sL 180 (ydep D.cg j) v) u := by
        intro v l5' hv
        have h := ih (j + 1) (t.sL 180 (ydep D.cg j) v) l5' (by omega) N (by
          intro k hk
          rw [ysL_same, vp_updL_if]
          simp only [yst, hp, if_true]
          by_cases e : k = ydep D.cg j
          · rw [if_pos e, if_pos e, hv]
          · rw [if_neg e, if_neg e]
            exact hw k (by omega))
        rw [hdep, hcp] at h
        exact h
      by_cases h0 : 0 ≤ D.cg j
      · rw [if_pos h0] at e1 e2
        obtain ⟨u, hu, Fu⟩ := key ((D.cg j).toInt64) (some (.int 0)) (by
          unfold yitem
          rw [if_pos h0]
          exact yJ_of _)
        refine ⟨u, fun Q => ?_, (yFr_sL (P := fun a => a = 180) rfl).trans Fu (fun a h => by omega)⟩
        rw [s_176_20]
        simp only [s_176_0, s_176_1, s_176_2, s_176_3, s_176_4, s_176_5, s_176_6, s_176_7, s_176_8, s_176_9, s_176_10, s_176_11, s_176_12, s_176_13, s_176_14, s_176_15, s_176_16, s_176_17, s_176_18, s_176_19, s_176_21, s_176_22, s_176_23, s_176_24, s_176_25, s_176_26, s_176_27, s_176_28, s_176_29, s_176_30, s_176_31, s_176_32, s_176_33, s_176_34, s_176_35, s_176_36, s_176_37, s_176_38, s_176_39, s_176_40, s_176_41, s_176_42, s_176_43, s_176_44, s_176_45, s_176_46, s_176_47, s_176_48, s_176_49, s_176_50, s_176_51, s_176_52, s_176_53, s_176_54, s_176_55, s_176_56, s_176_57, s_176_58, s_176_59, s_176_60, s_176_61, s_176_62, s_176_63, s_176_64, s_176_65, s_176_66, s_176_67, s_176_68, s_176_69, s_176_70, s_176_71, s_176_72, s_176_73, s_176_74, s_176_75, s_176_76, s_176_77, s_176_78, s_176_79, s_176_80, s_176_81, s_176_82, s_176_83, s_176_84, s_176_85, s_176_86, s_176_87, s_176_88, s_176_89, s_176_90, s_176_91, s_176_92, s_176_93, s_176_94, s_176_95, s_176_96, s_176_97, s_176_98, s_176_99, s_176_100, s_176_101, s_176_102, s_176_103, s_176_104, s_176_105, s_176_106, s_176_107, s_176_108, s_176_109, yO_160, yA_162, yn_162, yA_180, yn_180, h7, c7, N.nc, h1, h2, h3, h4, h5, h6, h8, h9, h10, h11, i1, i2, e1, e2, show ¬ (1 : Int32) < 0 from by decide, ne_eq, not_true_eq_false, if_false, Gk_v, Gk_n, xcat_nil, xcat_i, xcat_r, xcat_l, xcat_d, Nat.zero_le, Nat.reduceAdd, Nat.reduceLeDiff, true_and, and_true, ykl_i, ykl_r, ykl_n, ykl_l, hu]
      · rw [if_neg h0, if_pos hp] at e1
        rw [if_neg h0] at e2
        have hne : ¬ (1 : Int32) < 1 := by decide
        have hn1 : ¬ (1 : Int32) = 0 := by decide
        rcases yc2 hp (Int32.not_le.mp h0) with hm | hm
        · have e3 : (-1 : Int32) - D.cg j = 0 := by
            rw [hm]
            decide
          rw [e3] at e2
          obtain ⟨u, hu, Fu⟩ := key ((yI x).toInt64) (some (.int 1)) (by
            unfold yitem
            rw [if_neg h0, if_pos hm, yJ_of, yI_toInt (by omega)])
          refine ⟨u, fun Q => ?_, (yFr_sL (P := fun a => a = 180) rfl).trans Fu (fun a h => by omega)⟩
          rw [s_176_20]
          simp only [s_176_0, s_176_1, s_176_2, s_176_3, s_176_4, s_176_5, s_176_6, s_176_7, s_176_8, s_176_9, s_176_10, s_176_11, s_176_12, s_176_13, s_176_14, s_176_15, s_176_16, s_176_17, s_176_18, s_176_19, s_176_21, s_176_22, s_176_23, s_176_24, s_176_25, s_176_26, s_176_27, s_176_28, s_176_29, s_176_30, s_176_31, s_176_32, s_176_33, s_176_34, s_176_35, s_176_36, s_176_37, s_176_38, s_176_39, s_176_40, s_176_41, s_176_42, s_176_43, s_176_44, s_176_45, s_176_46, s_176_47, s_176_48, s_176_49, s_176_50, s_176_51, s_176_52, s_176_53, s_176_54, s_176_55, s_176_56, s_176_57, s_176_58, s_176_59, s_176_60, s_176_61, s_176_62, s_176_63, s_176_64, s_176_65, s_176_66, s_176_67, s_176_68, s_176_69, s_176_70, s_176_71, s_176_72, s_176_73, s_176_74, s_176_75, s_176_76, s_176_77, s_176_78, s_176_79, s_176_80, s_176_81, s_176_82, s_176_83, s_176_84, s_176_85, s_176_86, s_176_87, s_176_88, s_176_89, s_176_90, s_176_91, s_176_92, s_176_93, s_176_94, s_176_95, s_176_96, s_176_97, s_176_98, s_176_99, s_176_100, s_176_101, s_176_102, s_176_103, s_176_104, s_176_105, s_176_106, s_176_107, s_176_108, s_176_109, yO_160, yA_162, yn_162, yA_180, yn_180, h7, c7, N.nc, h1, h2, h3, h4, h5, h6, h8, h9, h10, h11, i1, i2, e1, e2, hne, hn1, ne_eq, not_true_eq_false, not_false_eq_true, if_true, if_false, Gk_v, Gk_n, xcat_nil, xcat_i, xcat_r, xcat_l, xcat_d, Nat.zero_le, Nat.reduceAdd, Nat.reduceLeDiff, true_and, and_true, ykl_i, ykl_r, ykl_n, ykl_l, hu]
        · have e3 : (-1 : Int32) - D.cg j = 1 := by
            rw [hm]
            decide
          rw [e3] at e2
          have hm1 : ¬ D.cg j = -1 := by
            rw [hm]
            decide
          obtain ⟨u, hu, Fu⟩ := key ((yI l).toInt64) (some (.int 1)) (by
            unfold yitem
            rw [if_neg h0, if_neg hm1, yJ_of, yI_toInt (by omega)])
          refine ⟨u, fun Q => ?_, (yFr_sL (P := fun a => a = 180) rfl).trans Fu (fun a h => by omega)⟩
          rw [s_176_20]
          simp only [s_176_0, s_176_1, s_176_2, s_176_3, s_176_4, s_176_5, s_176_6, s_176_7, s_176_8, s_176_9, s_176_10, s_176_11, s_176_12, s_176_13, s_176_14, s_176_15, s_176_16, s_176_17, s_176_18, s_176_19, s_176_21, s_176_22, s_176_23, s_176_24, s_176_25, s_176_26, s_176_27, s_176_28, s_176_29, s_176_30, s_176_31, s_176_32, s_176_33, s_176_34, s_176_35, s_176_36, s_176_37, s_176_38, s_176_39, s_176_40, s_176_41, s_176_42, s_176_43, s_176_44, s_176_45, s_176_46, s_176_47, s_176_48, s_176_49, s_176_50, s_176_51, s_176_52, s_176_53, s_176_54, s_176_55, s_176_56, s_176_57, s_176_58, s_176_59, s_176_60, s_176_61, s_176_62, s_176_63, s_176_64, s_176_65, s_176_66, s_176_67, s_176_68, s_176_69, s_176_70, s_176_71, s_176_72, s_176_73, s_176_74, s_176_75, s_176_76, s_176_77, s_176_78, s_176_79, s_176_80, s_176_81, s_176_82, s_176_83, s_176_84, s_176_85, s_176_86, s_176_87, s_176_88, s_176_89, s_176_90, s_176_91, s_176_92, s_176_93, s_176_94, s_176_95, s_176_96, s_176_97, s_176_98, s_176_99, s_176_100, s_176_101, s_176_102, s_176_103, s_176_104, s_176_105, s_176_106, s_176_107, s_176_108, s_176_109, yO_160, yA_162, yn_162, yA_180, yn_180, h7, c7, N.nc, h1, h2, h3, h4, h5, h6, h8, h9, h10, h11, i1, i2, e1, e2, hne, hn1, ne_eq, not_true_eq_false, not_false_eq_true, if_true, if_false, Gk_v, Gk_n, xcat_nil, xcat_i, xcat_r, xcat_l, xcat_d, Nat.zero_le, Nat.reduceAdd, Nat.reduceLeDiff, true_and, and_true, ykl_i, ykl_r, ykl_n, ykl_l, hu]
    · have hp' : D.cg j < -2 := Int32.not_le.mp hp
      have h0 : ¬ 0 ≤ D.cg j := fun h => hp (Int32.le_trans (by decide) h)
      rw [if_neg h0, if_neg hp] at e1
      have hk2 := hd2 hp'
      have hdep : ydep D.cg (j + 1) = ydep D.cg j - 1 := by
        simp only [ydep, hp, if_false]
      have hcp : ycp D.cg (j + 1) = ycp D.cg j + 1 := by
        simp only [ycp, hp, if_false]
      have h6 : (1 : Int32) < -1 - D.cg j := by
        rcases yc4 hg6 hp' with h | h | h | h <;> rw [h] <;> decide
      have h8 : yI (ydep D.cg j) + (-1) = yI (ydep D.cg j - 1) := yI_m1 (by omega)
      have h9 : yI (ydep D.cg j - 1) - 1 = yI (ydep D.cg j - 1 - 1) := yI_sub1 (by omega)
      have h10 : yix (yI (ydep D.cg j - 1 - 1)) 1200 := yix_I (by omega) (by omega)
      have h11 : (yI (ydep D.cg j - 1 - 1)).toNatClampNeg = ydep D.cg j - 1 - 1 := yI_clamp (by omega)
      have h12 : yix (yI (ydep D.cg j - 1)) 1200 := yix_I (by omega) (by omega)
      have h13 : (yI (ydep D.cg j - 1)).toNatClampNeg = ydep D.cg j - 1 := yI_clamp (by omega)
      have hwa := hw (ydep D.cg j - 1 - 1) (by omega)
      have hwb := hw (ydep D.cg j - 1) (by omega)
      have hsa := hsm (ydep D.cg j - 1 - 1)
      have hsb := hsm (ydep D.cg j - 1)
      have hih := ih (j + 1) (t.sL 180 (ydep D.cg j - 1 - 1) (Int64.ofInt (yclim (yop (D.cg j) (yst D.cg x l j (ydep D.cg j - 1 - 1)) (yst D.cg x l j (ydep D.cg j - 1)))))) (some (.int (-1 - D.cg j))) (by omega) N (by
          intro k hk
          rw [ysL_same, vp_updL_if]
          simp only [yst, hp, if_false]
          by_cases e : k = ydep D.cg j - 1 - 1
          · rw [if_pos e, if_pos (show k + 2 = ydep D.cg j by omega), show k + 1 = ydep D.cg j - 1 by omega, e]
          · rw [if_neg e, if_neg (by omega)]
            exact hw k (by omega))
      rw [hdep, hcp] at hih
      obtain ⟨u, hu, Fu⟩ := hih
      refine ⟨u, fun Q => ?_, (yFr_sL (P := fun a => a = 180) rfl).trans Fu (fun a h => by omega)⟩
      rw [s_176_20]
      simp only [s_176_0, s_176_1, s_176_2, s_176_3, s_176_4, s_176_5, s_176_6, s_176_7, s_176_8, s_176_9, s_176_10, s_176_11, s_176_12, s_176_13, s_176_14, s_176_15, s_176_16, s_176_17, s_176_18, s_176_19, s_176_21, s_176_22, s_176_23, s_176_24, s_176_25, s_176_26, s_176_27, s_176_28, s_176_29, s_176_30, s_176_31, s_176_32, s_176_33, s_176_34, s_176_35, s_176_36, s_176_37, s_176_38, s_176_39, s_176_40, s_176_41, s_176_42, s_176_43, s_176_44, s_176_45, s_176_46, s_176_47, s_176_48, s_176_49, s_176_50, s_176_51, s_176_52, s_176_53, s_176_54, s_176_55, s_176_56, s_176_57, s_176_58, s_176_59, s_176_60, s_176_61, s_176_62, s_176_63, s_176_64, s_176_65, s_176_66, s_176_67, s_176_68, s_176_69, s_176_70, s_176_71, s_176_72, s_176_73, s_176_74, s_176_75, s_176_76, s_176_77, s_176_78, s_176_79, s_176_80, s_176_81, s_176_82, s_176_83, s_176_84, s_176_85, s_176_86, s_176_87, s_176_88, s_176_89, s_176_90, s_176_91, s_176_92, s_176_93, s_176_94, s_176_95, s_176_96, s_176_97, s_176_98, s_176_99, s_176_100, s_176_101, s_176_102, s_176_103, s_176_104, s_176_105, s_176_106, s_176_107, s_176_108, s_176_109, yO_160, yA_162, yn_162, yA_180, yn_180, h7, c7, N.nc, h1, h2, h3, h4, h6, h8, h9, h10, h11, h12, h13, i1, e1, if_true, if_false, hwa, hwb, m_175 hg6 hp' hsa hsb, Gk_v, Gk_n, xcat_nil, xcat_i, xcat_r, xcat_l, xcat_d, Nat.zero_le, Nat.reduceAdd, Nat.reduceLeDiff, true_and, and_true, ykl_i, ykl_r, ykl_n, ykl_l, hu]
theorem m_176 {l x : Nat} (hx : x < 256) (hl : l < 256) (hc : yCok D.cn D.cg) {t : yT} (N : yN (t.A 162) D) : ∃ u, Ra (d + 2) 176 [.ref 160, .int (yI x), .int (yI l)] (yemb t) (.inl (some (.int (yI (ych D.cn D.cg l x))))) (yemb u) ∧ yFr (fun a => a = 180) t u := by
  have h6 : yix 6 1540 := yix_I (n := 6) (by omega) (by omega)
  have c6 : (6 : Int32).toNatClampNeg = 6 := rfl
  have h00 : yix 0 1200 := yix_I (n := 0) (by omega) (by omega)
  have hhc := N.hc
  by_cases hn : D.cn = 0
  · rw [if_pos hn] at hhc
    have h1 : x * l ≤ 255 * 255 := Nat.mul_le_mul (by omega) (by omega)
    have hv : yI x * yI l / 255 = yI (ych D.cn D.cg l x) := by
      unfold ych
      rw [if_pos hn, yI_mul, show (255 : Int32) = yI 255 from rfl, yI_div (by omega) (by omega)]
    refine ⟨t, fun Q => ?_, yFr.rfl'⟩
    show G (d + 2) 176 0 [some (.ref 160), some (.int (yI x)), some (.int (yI l)), none, none, none] [] (yemb t) Q ↔ _
    simp only [s_176_0, s_176_1, s_176_2, s_176_3, s_176_4, s_176_5, s_176_6, s_176_7, s_176_8, s_176_9, s_176_10, s_176_11, s_176_12, s_176_13, s_176_14, s_176_15, s_176_16, s_176_17, s_176_18, s_176_19, s_176_20, s_176_21, s_176_22, s_176_23, s_176_24, s_176_25, s_176_26, s_176_27, s_176_28, s_176_29, s_176_30, s_176_31, s_176_32, s_176_33, s_176_34, s_176_35, s_176_36, s_176_37, s_176_38, s_176_39, s_176_40, s_176_41, s_176_42, s_176_43, s_176_44, s_176_45, s_176_46, s_176_47, s_176_48, s_176_49, s_176_50, s_176_51, s_176_52, s_176_53, s_176_54, s_176_55, s_176_56, s_176_57, s_176_58, s_176_59, s_176_60, s_176_61, s_176_62, s_176_63, s_176_64, s_176_65, s_176_66, s_176_67, s_176_68, s_176_69, s_176_70, s_176_71, s_176_72, s_176_73, s_176_74, s_176_75, s_176_76, s_176_77, s_176_78, s_176_79, s_176_80, s_176_81, s_176_82, s_176_83, s_176_84, s_176_85, s_176_86, s_176_87, s_176_88, s_176_89, s_176_90, s_176_91, s_176_92, s_176_93, s_176_94, s_176_95, s_176_96, s_176_97, s_176_98, s_176_99, s_176_100, s_176_101, s_176_102, s_176_103, s_176_104, s_176_105, s_176_106, s_176_107, s_176_108, s_176_109, yO_160, yA_162, yn_162, h6, c6, hhc, ne_eq, not_true_eq_false, if_false, show ¬ (255 : Int32) = 0 from by decide, not_false_eq_true, hv, Gk_v, Gk_n, xcat_nil, xcat_i, xcat_r, xcat_l, xcat_d, Nat.zero_le, Nat.reduceAdd, Nat.reduceLeDiff, true_and, and_true, ykl_i, ykl_r, ykl_n, ykl_l]
  · rw [if_neg hn] at hhc
    obtain ⟨u, hu, Fu⟩ := l_176 (d := d) hx hl hc hn D.cn 0 (t.sL 180 0 0) none (Nat.zero_add _) N (fun k hk => absurd hk (Nat.not_lt_zero _))
    have hv : ych D.cn D.cg l x = ycl255 (yst D.cg x l D.cn 0) := by
      rw [ych_s hl hx]
      unfold ychs
      rw [if_neg hn]
    rw [hv]
    refine ⟨u, fun Q => ?_, (yFr_sL (P := fun a => a = 180) rfl).trans Fu (fun a h => by omega)⟩
    show G (d + 2) 176 0 [some (.ref 160), some (.int (yI x)), some (.int (yI l)), none, none, none] [] (yemb t) Q ↔ _
    simp only [s_176_0, s_176_1, s_176_2, s_176_3, s_176_4, s_176_11, s_176_12, s_176_13, s_176_14, s_176_15, s_176_16, s_176_17, s_176_18, s_176_19, yO_160, yA_162, yn_162, yA_180, yn_180, h6, c6, hhc, h00, ycl0, show ¬ (1 : Int32) = 0 from by decide, ne_eq, not_false_eq_true, if_true, Gk_v, Gk_n, xcat_nil, xcat_i, xcat_r, xcat_l, xcat_d, Nat.zero_le, Nat.reduceAdd, Nat.reduceLeDiff, true_and, and_true, ykl_i, ykl_r, ykl_n, ykl_l]
    exact hu Q
theorem m_177 {l p : Nat} (hp : p < 40) (hl : l < 256) (hc : yCok D.cn D.cg) {t : yT} (M : yM (t.A 162) D) : ∃ u, Ra (d + 3) 177 [.ref 160, .int (yI p), .int (yI l)] (yemb t) (.inl (some (.int (ydueC D.cn D.cg l (D.fm p))))) (yemb u) ∧ yFr (fun a => a = 180) t u := by
  have hr := yb8_eq (D.fm p) 16
  have hg := yb8_eq (D.fm p) 8
  have hb := yb8_eq (D.fm p) 0
  have hb0 := yb8_0 (D.fm p)
  obtain ⟨u1, h1, F1⟩ := m_176 (d := d) hr.2 hl hc M.v
  have N1 : yN (u1.A 162) D := by
    rw [F1.A (show ¬ (162 : Nat) = 180 by decide)]
    exact M.v
  obtain ⟨u2, h2, F2⟩ := m_176 (d := d) hg.2 hl hc N1
  have N2 : yN (u2.A 162) D := by
    rw [F2.A (show ¬ (162 : Nat) = 180 by decide)]
    exact N1
  obtain ⟨u3, h3, F3⟩ := m_176 (d := d) hb.2 hl hc N2
  refine ⟨u3, fun Q => ?_, (F1.trans F2 (P'' := fun a => a = 180) (fun a h => by omega)).trans F3 (fun a h => by omega)⟩
  show G (d + 3) 177 0 [some (.ref 160), some (.int (yI p)), some (.int (yI l)), none] [] (yemb t) Q ↔ _
  have hfm : ∀ Q', Cl (d + 2) 162 [.ref 160, .int (yI p), .int 7] (yemb t) Q' ↔ Q' (.inl (some (.int (D.fm p)))) (yemb t) := fun Q' => mo_fm M hp
  have hr1 := hr.1
  have hg1 := hg.1
  simp only [s_177_0, s_177_1, s_177_2, s_177_3, s_177_4, s_177_5, s_177_6, s_177_7, s_177_8, s_177_9, s_177_10, s_177_11, s_177_12, s_177_13, s_177_14, s_177_15, s_177_16, s_177_17, s_177_18, s_177_19, s_177_20, s_177_21, s_177_22, s_177_23, s_177_24, s_177_25, s_177_26, s_177_27, s_177_28, yO_160, hfm, hr1, hg1, hb0, h1, h2, h3, m_146, ycolor_nat, Gk_v, Gk_n, xcat_nil, xcat_i, xcat_r, xcat_l, xcat_d, Nat.zero_le, Nat.reduceAdd, Nat.reduceLeDiff, true_and, and_true, ykl_i, ykl_r, ykl_n, ykl_l]
  rfl
end

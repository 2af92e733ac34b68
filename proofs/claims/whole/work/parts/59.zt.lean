/-! ===== the model's setups: feeds ===== -/
theorem yix3' : yix 3 1540 := yix_I (n := 3) (by omega) (by omega)
section
variable {d : Nat} {t : yT} {n : Nat} {B : Nat → Nat} {m : Nat} {U : yU} {D : yD}
theorem l_143a (M : yM (t.A 163) D) {p : Nat} {l : Int32} {x4 : Option Value} (hp : p < 40) : ∀ m g, g + m = D.f → Gg (d + 1) 143 62 [some (.ref 160), some (.int (yI p)), some (.int l), some (.int (yI g)), x4] [] (yemb t) 77 [some (.ref 160), some (.int (yI p)), some (.int l), some (.int (yI (yfj D.fp p m g))), x4] [] (yemb t) := by
  have hf6 := M.ok.f6
  have hn40 := M.ok.n40
  intro m
  induction m with
  | zero =>
    intro g hg Q
    have c1 : yI D.f ≤ yI g := (yI_le (by omega) (by omega)).mpr (by omega)
    rw [s_143_62]
    simp only [s_143_0, s_143_1, s_143_2, s_143_3, s_143_4, s_143_5, s_143_6, s_143_7, s_143_8, s_143_9, s_143_10, s_143_11, s_143_12, s_143_13, s_143_14, s_143_15, s_143_16, s_143_17, s_143_18, s_143_19, s_143_20, s_143_21, s_143_22, s_143_23, s_143_24, s_143_25, s_143_26, s_143_27, s_143_28, s_143_29, s_143_30, s_143_31, s_143_32, s_143_33, s_143_34, s_143_35, s_143_36, s_143_37, s_143_38, s_143_39, s_143_40, s_143_41, s_143_42, s_143_43, s_143_44, s_143_45, s_143_46, s_143_47, s_143_48, s_143_49, s_143_50, s_143_51, s_143_52, s_143_53, s_143_53i, s_143_54, s_143_55, s_143_56, s_143_57, s_143_58, s_143_59, s_143_60, s_143_61, s_143_63, s_143_64, s_143_65, s_143_66, s_143_67, s_143_68, s_143_69, s_143_70, s_143_71, s_143_72, s_143_73, s_143_74, s_143_75, s_143_76, s_143_78, s_143_79, s_143_80, s_143_81, s_143_82, s_143_83, s_143_84, s_143_85, s_143_86, s_143_87, s_143_88, s_143_89, s_143_90, s_143_91, s_143_92, s_143_93, s_143_94, s_143_95, s_143_96, s_143_97, s_143_98, s_143_99, s_143_100, s_143_101, s_143_102, s_143_103, s_143_104, s_143_105, s_143_106, s_143_107, s_143_108, s_143_109, s_143_110, s_143_111, s_143_112, s_143_113, s_143_114, s_143_115, s_143_116, s_143_117, s_143_118, s_143_119, s_143_120, s_143_121, s_143_122, s_143_123, s_143_124, s_143_125, yO_160, yA_163, yn_163, yix3', ycl3, M.f, c1, if_true, Gk_v, Gk_n, xcat_nil, xcat_i, xcat_r, xcat_l, xcat_d, Nat.zero_le, Nat.reduceAdd, Nat.reduceLeDiff, true_and, and_true, ykl_i, ykl_r, ykl_n, ykl_l]
    exact Iff.rfl
  | succ m ih =>
    intro g hg Q
    have hfp := M.ok.fpn g (by omega)
    have c1 : ¬ yI D.f ≤ yI g := fun h => absurd ((yI_le (by omega) (by omega)).mp h) (by omega)
    have i2 : yix (yI (328 + 2 * g)) 1540 := yix_I (by omega) (by omega)
    have c2 : (yI (328 + 2 * g)).toNatClampNeg = 328 + 2 * g := yI_clamp (by omega)
    have h7 : yI g + 1 = yI (g + 1) := yI_add
    rw [s_143_62, yfj]
    by_cases h : D.fp g < p
    · rw [if_pos h]
      have c3 : ¬ yI p ≤ yI (D.fp g) := fun h' => absurd ((yI_le (by omega) (by omega)).mp h') (by omega)
      simp only [s_143_0, s_143_1, s_143_2, s_143_3, s_143_4, s_143_5, s_143_6, s_143_7, s_143_8, s_143_9, s_143_10, s_143_11, s_143_12, s_143_13, s_143_14, s_143_15, s_143_16, s_143_17, s_143_18, s_143_19, s_143_20, s_143_21, s_143_22, s_143_23, s_143_24, s_143_25, s_143_26, s_143_27, s_143_28, s_143_29, s_143_30, s_143_31, s_143_32, s_143_33, s_143_34, s_143_35, s_143_36, s_143_37, s_143_38, s_143_39, s_143_40, s_143_41, s_143_42, s_143_43, s_143_44, s_143_45, s_143_46, s_143_47, s_143_48, s_143_49, s_143_50, s_143_51, s_143_52, s_143_53, s_143_53i, s_143_54, s_143_55, s_143_56, s_143_57, s_143_58, s_143_59, s_143_60, s_143_61, s_143_63, s_143_64, s_143_65, s_143_66, s_143_67, s_143_68, s_143_69, s_143_70, s_143_71, s_143_72, s_143_73, s_143_74, s_143_75, s_143_76, s_143_78, s_143_79, s_143_80, s_143_81, s_143_82, s_143_83, s_143_84, s_143_85, s_143_86, s_143_87, s_143_88, s_143_89, s_143_90, s_143_91, s_143_92, s_143_93, s_143_94, s_143_95, s_143_96, s_143_97, s_143_98, s_143_99, s_143_100, s_143_101, s_143_102, s_143_103, s_143_104, s_143_105, s_143_106, s_143_107, s_143_108, s_143_109, s_143_110, s_143_111, s_143_112, s_143_113, s_143_114, s_143_115, s_143_116, s_143_117, s_143_118, s_143_119, s_143_120, s_143_121, s_143_122, s_143_123, s_143_124, s_143_125, yO_160, yA_163, yn_163, yix3', ycl3, M.f, c1, if_false, m_161, i2, c2, M.fp g (show g < D.f by omega), c3, h7, ih (g + 1) (by omega), Gk_v, Gk_n, xcat_nil, xcat_i, xcat_r, xcat_l, xcat_d, Nat.zero_le, Nat.reduceAdd, Nat.reduceLeDiff, true_and, and_true, ykl_i, ykl_r, ykl_n, ykl_l]
    · rw [if_neg h]
      have c3 : yI p ≤ yI (D.fp g) := (yI_le (by omega) (by omega)).mpr (by omega)
      simp only [s_143_0, s_143_1, s_143_2, s_143_3, s_143_4, s_143_5, s_143_6, s_143_7, s_143_8, s_143_9, s_143_10, s_143_11, s_143_12, s_143_13, s_143_14, s_143_15, s_143_16, s_143_17, s_143_18, s_143_19, s_143_20, s_143_21, s_143_22, s_143_23, s_143_24, s_143_25, s_143_26, s_143_27, s_143_28, s_143_29, s_143_30, s_143_31, s_143_32, s_143_33, s_143_34, s_143_35, s_143_36, s_143_37, s_143_38, s_143_39, s_143_40, s_143_41, s_143_42, s_143_43, s_143_44, s_143_45, s_143_46, s_143_47, s_143_48, s_143_49, s_143_50, s_143_51, s_143_52, s_143_53, s_143_53i, s_143_54, s_143_55, s_143_56, s_143_57, s_143_58, s_143_59, s_143_60, s_143_61, s_143_63, s_143_64, s_143_65, s_143_66, s_143_67, s_143_68, s_143_69, s_143_70, s_143_71, s_143_72, s_143_73, s_143_74, s_143_75, s_143_76, s_143_78, s_143_79, s_143_80, s_143_81, s_143_82, s_143_83, s_143_84, s_143_85, s_143_86, s_143_87, s_143_88, s_143_89, s_143_90, s_143_91, s_143_92, s_143_93, s_143_94, s_143_95, s_143_96, s_143_97, s_143_98, s_143_99, s_143_100, s_143_101, s_143_102, s_143_103, s_143_104, s_143_105, s_143_106, s_143_107, s_143_108, s_143_109, s_143_110, s_143_111, s_143_112, s_143_113, s_143_114, s_143_115, s_143_116, s_143_117, s_143_118, s_143_119, s_143_120, s_143_121, s_143_122, s_143_123, s_143_124, s_143_125, yO_160, yA_163, yn_163, yix3', ycl3, M.f, c1, if_false, if_true, m_161, i2, c2, M.fp g (show g < D.f by omega), c3, Gk_v, Gk_n, xcat_nil, xcat_i, xcat_r, xcat_l, xcat_d, Nat.zero_le, Nat.reduceAdd, Nat.reduceLeDiff, true_and, and_true, ykl_i, ykl_r, ykl_n, ykl_l]
/-- room is made -/
theorem l_143b {S : Nat → Int32} {p l : Int32} {j e : Nat} (he : e ≤ 340) : ∀ m k (t : yT), k + 1 = 328 + 2 * j + m → k + 2 < e → (t.A 163 = fun i => if k + 3 ≤ i ∧ i < e then S (i - 2) else S i) → ∃ (u : yT) (x4 : Int32), Gg (d + 1) 143 87 [some (.ref 160), some (.int p), some (.int l), some (.int (yI j)), some (.int (yI k))] [] (yemb t) 103 [some (.ref 160), some (.int p), some (.int l), some (.int (yI j)), some (.int x4)] [] (yemb u) ∧ ((u.A 163 = fun i => if 328 + 2 * j + 2 ≤ i ∧ i < e then S (i - 2) else S i) ∧ yFr (fun a => a = 163) t u) := by
  intro m
  induction m with
  | zero =>
    intro k t hk hke hS
    have c1 : yI k < yI (328 + 2 * j) := (yI_lt (by omega) (by omega)).mpr (by omega)
    refine ⟨t, yI k, fun Q => ?_, ?_, yFr.rfl'⟩
    · rw [s_143_87]
      simp only [s_143_0, s_143_1, s_143_2, s_143_3, s_143_4, s_143_5, s_143_6, s_143_7, s_143_8, s_143_9, s_143_10, s_143_11, s_143_12, s_143_13, s_143_14, s_143_15, s_143_16, s_143_17, s_143_18, s_143_19, s_143_20, s_143_21, s_143_22, s_143_23, s_143_24, s_143_25, s_143_26, s_143_27, s_143_28, s_143_29, s_143_30, s_143_31, s_143_32, s_143_33, s_143_34, s_143_35, s_143_36, s_143_37, s_143_38, s_143_39, s_143_40, s_143_41, s_143_42, s_143_43, s_143_44, s_143_45, s_143_46, s_143_47, s_143_48, s_143_49, s_143_50, s_143_51, s_143_52, s_143_53, s_143_53i, s_143_54, s_143_55, s_143_56, s_143_57, s_143_58, s_143_59, s_143_60, s_143_61, s_143_62, s_143_63, s_143_64, s_143_65, s_143_66, s_143_67, s_143_68, s_143_69, s_143_70, s_143_71, s_143_72, s_143_73, s_143_74, s_143_75, s_143_76, s_143_77, s_143_78, s_143_79, s_143_80, s_143_81, s_143_82, s_143_83, s_143_84, s_143_85, s_143_86, s_143_88, s_143_89, s_143_90, s_143_91, s_143_92, s_143_93, s_143_94, s_143_95, s_143_96, s_143_97, s_143_98, s_143_99, s_143_100, s_143_101, s_143_102, s_143_104, s_143_105, s_143_106, s_143_107, s_143_108, s_143_109, s_143_110, s_143_111, s_143_112, s_143_113, s_143_114, s_143_115, s_143_116, s_143_117, s_143_118, s_143_119, s_143_120, s_143_121, s_143_122, s_143_123, s_143_124, s_143_125, yO_160, m_161, c1, if_true, Gk_v, Gk_n, xcat_nil, xcat_i, xcat_r, xcat_l, xcat_d, Nat.zero_le, Nat.reduceAdd, Nat.reduceLeDiff, true_and, and_true, ykl_i, ykl_r, ykl_n, ykl_l]
    · rw [hS]
      funext i
      rw [show 328 + 2 * j + 2 = k + 3 by omega]
  | succ m ih =>
    intro k t hk hke hS
    have c1 : ¬ yI k < yI (328 + 2 * j) := fun h => absurd ((yI_lt (by omega) (by omega)).mp h) (by omega)
    have i1 : yix (yI k) 1540 := yix_I (by omega) (by omega)
    have c2 : (yI k).toNatClampNeg = k := yI_clamp (by omega)
    have e2 : yI k + 2 = yI (k + 2) := yI_add
    have i2 : yix (yI (k + 2)) 1540 := yix_I (by omega) (by omega)
    have c3 : (yI (k + 2)).toNatClampNeg = k + 2 := yI_clamp (by omega)
    have e3 : yI k + -1 = yI (k - 1) := yI_m1 (by omega)
    have hA : t.A 163 k = S k := by
      rw [hS]
      exact if_neg (by omega)
    obtain ⟨u, x4, hu, Su, Fu⟩ := ih (k - 1) (t.s1 163 (k + 2) (S k)) (by omega) (by omega) (by
      rw [ys1_upd]
      funext i
      by_cases ei : i = k + 2
      · rw [ei, yupd_same, if_pos (by omega), show k + 2 - 2 = k by omega]
      · rw [yupd_ne ei, hS]
        show (if _ then _ else _) = _
        by_cases c : k + 3 ≤ i ∧ i < e
        · rw [if_pos c, if_pos (by omega)]
        · rw [if_neg c, if_neg (by omega)])
    refine ⟨u, x4, fun Q => ?_, Su, (yFr_s1 (P := fun a => a = 163) rfl).trans Fu (fun a h => h.elim id id)⟩
    have hu' := hu Q
    rw [s_143_87]
    simp only [s_143_0, s_143_1, s_143_2, s_143_3, s_143_4, s_143_5, s_143_6, s_143_7, s_143_8, s_143_9, s_143_10, s_143_11, s_143_12, s_143_13, s_143_14, s_143_15, s_143_16, s_143_17, s_143_18, s_143_19, s_143_20, s_143_21, s_143_22, s_143_23, s_143_24, s_143_25, s_143_26, s_143_27, s_143_28, s_143_29, s_143_30, s_143_31, s_143_32, s_143_33, s_143_34, s_143_35, s_143_36, s_143_37, s_143_38, s_143_39, s_143_40, s_143_41, s_143_42, s_143_43, s_143_44, s_143_45, s_143_46, s_143_47, s_143_48, s_143_49, s_143_50, s_143_51, s_143_52, s_143_53, s_143_53i, s_143_54, s_143_55, s_143_56, s_143_57, s_143_58, s_143_59, s_143_60, s_143_61, s_143_62, s_143_63, s_143_64, s_143_65, s_143_66, s_143_67, s_143_68, s_143_69, s_143_70, s_143_71, s_143_72, s_143_73, s_143_74, s_143_75, s_143_76, s_143_77, s_143_78, s_143_79, s_143_80, s_143_81, s_143_82, s_143_83, s_143_84, s_143_85, s_143_86, s_143_88, s_143_89, s_143_90, s_143_91, s_143_92, s_143_93, s_143_94, s_143_95, s_143_96, s_143_97, s_143_98, s_143_99, s_143_100, s_143_101, s_143_102, s_143_104, s_143_105, s_143_106, s_143_107, s_143_108, s_143_109, s_143_110, s_143_111, s_143_112, s_143_113, s_143_114, s_143_115, s_143_116, s_143_117, s_143_118, s_143_119, s_143_120, s_143_121, s_143_122, s_143_123, s_143_124, s_143_125, yO_160, m_161, c1, if_false, yA_163, yn_163, i1, c2, e2, i2, c3, hA, e3, Gk_v, Gk_n, xcat_nil, xcat_i, xcat_r, xcat_l, xcat_d, Nat.zero_le, Nat.reduceAdd, Nat.reduceLeDiff, true_and, and_true, ykl_i, ykl_r, ykl_n, ykl_l]
    exact hu'
/-- a feed laid into the draft -/
theorem l_143c (M : yM (t.A 163) D) {p l : Nat} {x3 x4 : Option Value} (hpn : p < D.n) (hl : l < 10000) (hp : ¬ p = 0 → ynof D p ∧ D.f < 6) : ∃ u, Ga (d + 1) 143 60 [some (.ref 160), some (.int (yI p)), some (.int (yI l)), x3, x4] [] (yemb t) (.inl none) (yemb u) ∧ (yM (u.A 163) (yaddf D p l) ∧ yFr (fun a => a = 163) t u) := by
  have hok := yaddf_ok M.ok hpn hl hp
  have hn40 := M.ok.n40
  have hf6 := M.ok.f6
  have ga := fun (x : Option Value) => l_143a (d := d) M (p := p) (l := yI l) (x4 := x) (by omega) D.f 0 (Nat.zero_add _)
  unfold yaddf at hok ⊢
  by_cases e : p = 0
  · rw [if_pos e] at hok ⊢
    have e0 : yfj D.fp p D.f 0 = 0 := by
      cases hf : D.f with
      | zero => rfl
      | succ k => rw [yfj, e, if_neg (Nat.not_lt_zero _)]
    have c0 : yI p = 0 := by rw [e]; rfl
    have cc : (0 : Int32) ≤ 0 := Int32.le_refl _
    have i1 : yix (yI (328 + 2 * 0)) 1540 := yix_I (by omega) (by omega)
    have c2 : (yI (328 + 2 * 0)).toNatClampNeg = 328 + 2 * 0 := yI_clamp (by omega)
    have e3 : yI (328 + 2 * 0) + 1 = yI (328 + 2 * 0 + 1) := yI_add
    have i2 : yix (yI (328 + 2 * 0 + 1)) 1540 := yix_I (by omega) (by omega)
    have c3 : (yI (328 + 2 * 0 + 1)).toNatClampNeg = 328 + 2 * 0 + 1 := yI_clamp (by omega)
    rw [e0, c0] at ga
    refine ⟨(t.s1 163 (328 + 2 * 0) 0).s1 163 (328 + 2 * 0 + 1) (yI l), fun Q => ?_, ⟨hok, ?_⟩, (yFr_s1 (P := fun a => a = 163) rfl).trans (yFr_s1 (P := fun a => a = 163) rfl) (fun a h => h.elim id id)⟩
    · have gz := ga x4 Q
      have start : G (d + 1) 143 60 [some (.ref 160), some (.int (yI p)), some (.int (yI l)), x3, x4] [] (yemb t) Q ↔ G (d + 1) 143 62 [some (.ref 160), some (.int 0), some (.int (yI l)), some (.int (yI 0)), x4] [] (yemb t) Q := by
        rw [c0]
        simp only [s_143_60, s_143_61, Gk_v, Gk_n, xcat_nil, xcat_i, xcat_r, xcat_l, xcat_d, Nat.zero_le, Nat.reduceAdd, Nat.reduceLeDiff, true_and, and_true, ykl_i, ykl_r, ykl_n, ykl_l]
        exact Iff.rfl
      refine start.trans (gz.trans ?_)
      rw [s_143_77]
      simp only [s_143_0, s_143_1, s_143_2, s_143_3, s_143_4, s_143_5, s_143_6, s_143_7, s_143_8, s_143_9, s_143_10, s_143_11, s_143_12, s_143_13, s_143_14, s_143_15, s_143_16, s_143_17, s_143_18, s_143_19, s_143_20, s_143_21, s_143_22, s_143_23, s_143_24, s_143_25, s_143_26, s_143_27, s_143_28, s_143_29, s_143_30, s_143_31, s_143_32, s_143_33, s_143_34, s_143_35, s_143_36, s_143_37, s_143_38, s_143_39, s_143_40, s_143_41, s_143_42, s_143_43, s_143_44, s_143_45, s_143_46, s_143_47, s_143_48, s_143_49, s_143_50, s_143_51, s_143_52, s_143_53, s_143_53i, s_143_54, s_143_55, s_143_56, s_143_57, s_143_58, s_143_59, s_143_60, s_143_61, s_143_63, s_143_64, s_143_65, s_143_66, s_143_67, s_143_68, s_143_69, s_143_70, s_143_71, s_143_72, s_143_73, s_143_74, s_143_75, s_143_76, s_143_78, s_143_79, s_143_80, s_143_81, s_143_82, s_143_83, s_143_84, s_143_85, s_143_86, s_143_88, s_143_89, s_143_90, s_143_91, s_143_92, s_143_93, s_143_94, s_143_95, s_143_96, s_143_97, s_143_98, s_143_99, s_143_100, s_143_101, s_143_102, s_143_104, s_143_105, s_143_106, s_143_107, s_143_108, s_143_109, s_143_110, s_143_111, s_143_112, s_143_113, s_143_114, s_143_115, s_143_116, s_143_117, s_143_118, s_143_119, s_143_120, s_143_121, s_143_122, s_143_123, s_143_124, s_143_125, yO_160, yA_163, yn_163, cc, if_true, m_161, i1, c2, e3, i2, c3, Gk_v, Gk_n, xcat_nil, xcat_i, xcat_r, xcat_l, xcat_d, Nat.zero_le, Nat.reduceAdd, Nat.reduceLeDiff, true_and, and_true, ykl_i, ykl_r, ykl_n, ykl_l]
    · have hf1 := M.ok.f1
      have h1 : upd (t.A 163) (328 + 2 * 0) 0 = t.A 163 := by
        funext i
        by_cases ei : i = 328 + 2 * 0
        · rw [ei, yupd_same, M.fp 0 (by omega), M.ok.fp0]
          rfl
        · rw [yupd_ne ei]
      rw [ys1_upd, ys1_upd, h1]
      exact yN_sfl M.v (by omega) hf6
  · rw [if_neg e] at hok ⊢
    obtain ⟨hn, h6⟩ := hp e
    obtain ⟨⟨j1, j2⟩, j3, j4⟩ := yfJ_ok M.ok e hn
    have c0 : ¬ yI p ≤ 0 := fun h => absurd ((yI_le (m := 0) (by omega) (by decide)).mp h) (by omega)
    unfold yfJ at *
    generalize yfj D.fp p D.f 0 = j at *
    have e1 : yI (328 + 2 * D.f) - 1 = yI (328 + 2 * D.f - 1) := yI_sub1 (by omega)
    have e2 : yI D.f + 1 = yI (D.f + 1) := yI_add
    obtain ⟨u, x4', hu, Su, Fu⟩ := l_143b (d := d) (S := t.A 163) (p := yI p) (l := yI l) (j := j) (e := 328 + 2 * D.f + 2) (by omega) (328 + 2 * D.f - (328 + 2 * j)) (328 + 2 * D.f - 1) t (by omega) (by omega) (by
      funext i
      rw [if_neg (by omega)])
    have i1 : yix (yI (328 + 2 * j)) 1540 := yix_I (by omega) (by omega)
    have c2 : (yI (328 + 2 * j)).toNatClampNeg = 328 + 2 * j := yI_clamp (by omega)
    have e3 : yI (328 + 2 * j) + 1 = yI (328 + 2 * j + 1) := yI_add
    have i2 : yix (yI (328 + 2 * j + 1)) 1540 := yix_I (by omega) (by omega)
    have c3 : (yI (328 + 2 * j + 1)).toNatClampNeg = 328 + 2 * j + 1 := yI_clamp (by omega)
    have hu3 : u.A 163 3 = yI D.f := by
      rw [Su]
      show (if _ then _ else _) = _
      rw [if_neg (by omega)]
      exact M.f
    refine ⟨((u.s1 163 3 (yI (D.f + 1))).s1 163 (328 + 2 * j) (yI p)).s1 163 (328 + 2 * j + 1) (yI l), fun Q => ?_, ⟨hok, ?_⟩, ((Fu.trans (yFr_s1 (P := fun a => a = 163) rfl) (P'' := fun a => a = 163) (fun a h => h.elim id id)).trans (yFr_s1 (P := fun a => a = 163) rfl) (P'' := fun a => a = 163) (fun a h => h.elim id id)).trans (yFr_s1 (P := fun a => a = 163) rfl) (fun a h => h.elim id id)⟩
    · have gz := ga x4 Q
      have start : G (d + 1) 143 60 [some (.ref 160), some (.int (yI p)), some (.int (yI l)), x3, x4] [] (yemb t) Q ↔ G (d + 1) 143 62 [some (.ref 160), some (.int (yI p)), some (.int (yI l)), some (.int (yI 0)), x4] [] (yemb t) Q := by
        simp only [s_143_60, s_143_61, Gk_v, Gk_n, xcat_nil, xcat_i, xcat_r, xcat_l, xcat_d, Nat.zero_le, Nat.reduceAdd, Nat.reduceLeDiff, true_and, and_true, ykl_i, ykl_r, ykl_n, ykl_l]
        exact Iff.rfl
      refine start.trans (gz.trans ?_)
      have hu' := hu Q
      have mid : G (d + 1) 143 77 [some (.ref 160), some (.int (yI p)), some (.int (yI l)), some (.int (yI j)), x4] [] (yemb t) Q ↔ G (d + 1) 143 87 [some (.ref 160), some (.int (yI p)), some (.int (yI l)), some (.int (yI j)), some (.int (yI (328 + 2 * D.f - 1)))] [] (yemb t) Q := by
        rw [s_143_77]
        simp only [s_143_0, s_143_1, s_143_2, s_143_3, s_143_4, s_143_5, s_143_6, s_143_7, s_143_8, s_143_9, s_143_10, s_143_11, s_143_12, s_143_13, s_143_14, s_143_15, s_143_16, s_143_17, s_143_18, s_143_19, s_143_20, s_143_21, s_143_22, s_143_23, s_143_24, s_143_25, s_143_26, s_143_27, s_143_28, s_143_29, s_143_30, s_143_31, s_143_32, s_143_33, s_143_34, s_143_35, s_143_36, s_143_37, s_143_38, s_143_39, s_143_40, s_143_41, s_143_42, s_143_43, s_143_44, s_143_45, s_143_46, s_143_47, s_143_48, s_143_49, s_143_50, s_143_51, s_143_52, s_143_53, s_143_53i, s_143_54, s_143_55, s_143_56, s_143_57, s_143_58, s_143_59, s_143_60, s_143_61, s_143_63, s_143_64, s_143_65, s_143_66, s_143_67, s_143_68, s_143_69, s_143_70, s_143_71, s_143_72, s_143_73, s_143_74, s_143_75, s_143_76, s_143_78, s_143_79, s_143_80, s_143_81, s_143_82, s_143_83, s_143_84, s_143_85, s_143_86, s_143_88, s_143_89, s_143_90, s_143_91, s_143_92, s_143_93, s_143_94, s_143_95, s_143_96, s_143_97, s_143_98, s_143_99, s_143_100, s_143_101, s_143_102, s_143_104, s_143_105, s_143_106, s_143_107, s_143_108, s_143_109, s_143_110, s_143_111, s_143_112, s_143_113, s_143_114, s_143_115, s_143_116, s_143_117, s_143_118, s_143_119, s_143_120, s_143_121, s_143_122, s_143_123, s_143_124, s_143_125, yO_160, yA_163, yn_163, c0, if_false, yix3', ycl3, M.f, m_161, e1, Gk_v, Gk_n, xcat_nil, xcat_i, xcat_r, xcat_l, xcat_d, Nat.zero_le, Nat.reduceAdd, Nat.reduceLeDiff, true_and, and_true, ykl_i, ykl_r, ykl_n, ykl_l]
      refine mid.trans (hu'.trans ?_)
      rw [s_143_103]
      simp only [s_143_0, s_143_1, s_143_2, s_143_3, s_143_4, s_143_5, s_143_6, s_143_7, s_143_8, s_143_9, s_143_10, s_143_11, s_143_12, s_143_13, s_143_14, s_143_15, s_143_16, s_143_17, s_143_18, s_143_19, s_143_20, s_143_21, s_143_22, s_143_23, s_143_24, s_143_25, s_143_26, s_143_27, s_143_28, s_143_29, s_143_30, s_143_31, s_143_32, s_143_33, s_143_34, s_143_35, s_143_36, s_143_37, s_143_38, s_143_39, s_143_40, s_143_41, s_143_42, s_143_43, s_143_44, s_143_45, s_143_46, s_143_47, s_143_48, s_143_49, s_143_50, s_143_51, s_143_52, s_143_53, s_143_53i, s_143_54, s_143_55, s_143_56, s_143_57, s_143_58, s_143_59, s_143_60, s_143_61, s_143_63, s_143_64, s_143_65, s_143_66, s_143_67, s_143_68, s_143_69, s_143_70, s_143_71, s_143_72, s_143_73, s_143_74, s_143_75, s_143_76, s_143_78, s_143_79, s_143_80, s_143_81, s_143_82, s_143_83, s_143_84, s_143_85, s_143_86, s_143_88, s_143_89, s_143_90, s_143_91, s_143_92, s_143_93, s_143_94, s_143_95, s_143_96, s_143_97, s_143_98, s_143_99, s_143_100, s_143_101, s_143_102, s_143_104, s_143_105, s_143_106, s_143_107, s_143_108, s_143_109, s_143_110, s_143_111, s_143_112, s_143_113, s_143_114, s_143_115, s_143_116, s_143_117, s_143_118, s_143_119, s_143_120, s_143_121, s_143_122, s_143_123, s_143_124, s_143_125, yO_160, yA_163, yn_163, yix3', ycl3, hu3, e2, m_161, i1, c2, e3, i2, c3, Gk_v, Gk_n, xcat_nil, xcat_i, xcat_r, xcat_l, xcat_d, Nat.zero_le, Nat.reduceAdd, Nat.reduceLeDiff, true_and, and_true, ykl_i, ykl_r, ykl_n, ykl_l]
    · have hT : ∀ i, (((u.s1 163 3 (yI (D.f + 1))).s1 163 (328 + 2 * j) (yI p)).s1 163 (328 + 2 * j + 1) (yI l)).A 163 i = if i = 328 + 2 * j + 1 then yI l else if i = 328 + 2 * j then yI p else if i = 3 then yI (D.f + 1) else if 328 + 2 * j + 2 ≤ i ∧ i < 328 + 2 * D.f + 2 then t.A 163 (i - 2) else t.A 163 i := by
        intro i
        rw [ys1_upd, ys1_upd, ys1_upd, Su]
        rfl
      refine yN_sfe M.v ?_ (fun i h3 hi => ?_) (fun g hg => ?_) (fun g hg => ?_)
      · rw [hT, if_neg (by omega), if_neg (by omega), if_pos rfl]
      · rw [hT, if_neg (by omega), if_neg (by omega), if_neg h3, if_neg (by omega)]
      · rw [hT, if_neg (by omega)]
        unfold yinsN
        by_cases c4 : g < j
        · rw [if_neg (by omega), if_neg (by omega), if_neg (by omega), if_pos c4]
          exact M.fp g (by omega)
        · rw [if_neg c4]
          by_cases c5 : g = j
          · rw [if_pos (by omega), if_pos c5]
          · rw [if_neg (by omega), if_neg (by omega), if_pos (by omega), if_neg c5, show 328 + 2 * g - 2 = 328 + 2 * (g - 1) by omega]
            exact M.fp (g - 1) (by omega)
      · rw [hT]
        unfold yinsI
        by_cases c4 : g < j
        · rw [if_neg (by omega), if_neg (by omega), if_neg (by omega), if_neg (by omega), if_pos c4]
          exact M.fl g (by omega)
        · rw [if_neg c4]
          by_cases c5 : g = j
          · rw [if_pos (by omega), if_pos c5]
          · rw [if_neg (by omega), if_neg (by omega), if_neg (by omega), if_pos (by omega), if_neg c5, show 328 + 2 * g + 1 - 2 = 328 + 2 * (g - 1) + 1 by omega]
            exact M.fl (g - 1) (by omega)
theorem m_143 (K : yUk U) (M : yMs t n B m U) : yRm (fun u => Ra (d + 3) 143 [.ref 160] (yemb t) (.inl none) (yemb u)) t n B (yrfeed n B (ysk n B m) U) := by
  have hn1 := K.1.n1
  have hn40 := K.1.n40
  have hf6 := K.1.f6
  have en : yI U.1.n - 1 = yI (U.1.n - 1) := yI_sub1 hn1
  have i0 : yix 0 1540 := yix_I (n := 0) (by omega) (by omega)
  have c00 : (0 : Int32).toNatClampNeg = 0 := rfl
  have c10 : ¬ (1 : Int32) = 0 := by decide
  have hM := M.2.2.2.2.2.1
  unfold yrfeed
  cases h1 : ynum n B (ysk n B m) 0 (U.1.n - 1)
  · obtain ⟨u, hu, E, Ku⟩ := w_137f (d := d) M (lo := 0) (hi := U.1.n - 1) (by decide) (by omega) h1
    have hu' : ∀ Q', Cl (d + 2) 137 [.ref 160, .int 0, .int (yI (U.1.n - 1))] (yemb t) Q' ↔ Q' (.inl (some (.int 0))) (yemb u) := hu
    have g132 := w_132n (d := d + 2) E.1
    have g137 := fun (lo hi : Int32) => m_137n (d := d) E.1 (lo := lo) (hi := hi)
    rw [if_neg (by decide)]
    refine ⟨u, fun Q => ?_, E, Ku⟩
    show G (d + 3) 143 0 [some (.ref 160), none, none, none, none] [] (yemb t) Q ↔ _
    simp only [s_143_0, s_143_1, s_143_2, s_143_3, s_143_4, s_143_5, s_143_6, s_143_7, s_143_8, s_143_9, s_143_10, s_143_11, s_143_12, s_143_13, s_143_14, s_143_15, s_143_16, s_143_17, s_143_18, s_143_19, s_143_20, s_143_21, s_143_22, s_143_23, s_143_24, s_143_25, s_143_26, s_143_27, s_143_28, s_143_29, s_143_30, s_143_31, s_143_32, s_143_33, s_143_34, s_143_35, s_143_36, s_143_37, s_143_38, s_143_39, s_143_40, s_143_41, s_143_42, s_143_43, s_143_44, s_143_45, s_143_46, s_143_47, s_143_48, s_143_49, s_143_50, s_143_51, s_143_52, s_143_53, s_143_53i, s_143_54, s_143_55, s_143_56, s_143_57, s_143_58, s_143_59, s_143_60, s_143_61, s_143_63, s_143_64, s_143_65, s_143_66, s_143_67, s_143_68, s_143_69, s_143_70, s_143_71, s_143_72, s_143_73, s_143_74, s_143_75, s_143_76, s_143_77, s_143_78, s_143_79, s_143_80, s_143_81, s_143_82, s_143_83, s_143_84, s_143_85, s_143_86, s_143_87, s_143_88, s_143_89, s_143_90, s_143_91, s_143_92, s_143_93, s_143_94, s_143_95, s_143_96, s_143_97, s_143_98, s_143_99, s_143_100, s_143_101, s_143_102, s_143_103, s_143_104, s_143_105, s_143_106, s_143_107, s_143_108, s_143_109, s_143_110, s_143_111, s_143_112, s_143_113, s_143_114, s_143_115, s_143_116, s_143_117, s_143_118, s_143_119, s_143_120, s_143_121, s_143_122, s_143_123, s_143_124, s_143_125, yO_160, yA_163, yn_163, i0, c00, hM.n, en, hu', g132, g137, if_true, ne_eq, not_true_eq_false, if_false, Gk_v, Gk_n, xcat_nil, xcat_i, xcat_r, xcat_l, xcat_d, Nat.zero_le, Nat.reduceAdd, Nat.reduceLeDiff, true_and, and_true, ykl_i, ykl_r, ykl_n, ykl_l]
  · rw [if_pos rfl]
    have hv := ynv_lt h1
    obtain ⟨u, hu, Mu, h17, Ku⟩ := w_137 (d := d) M (lo := 0) (hi := U.1.n - 1) (by decide) (by omega) h1
    have hu' : ∀ Q', Cl (d + 2) 137 [.ref 160, .int 0, .int (yI (U.1.n - 1))] (yemb t) Q' ↔ Q' _ (yemb u) := hu
    have hq2 : ysk n B (yw ydg B (n - ysk n B m) (ysk n B m)) = ynq n B (ysk n B m) := rfl
    have g132 := w_132 (d := d + 2) Mu
    have hfd : U.2.1 < 2 ^ 63 := Nat.lt_trans K.2.1.1 (by decide)
    generalize ynv n B (ysk n B m) = p at *
    generalize ynq n B (ysk n B m) = q2 at *
    generalize yw ydg B (n - ysk n B m) (ysk n B m) = m1 at *
    generalize ysk n B m = q1 at *
    have hsar := yL_sar (w := U.2.1) (p := p) hfd (by omega)
    have h20 := Mu.2.2.2.2.2.2.1.1
    have hMu := Mu.2.2.2.2.2.1
    cases h2 : U.2.1.testBit p
    · rw [h2, if_neg (by decide)] at hsar
      rw [if_neg (by decide)]
      by_cases h3 : ¬ p = 0 ∧ 6 ≤ U.1.f
      · rw [if_pos h3]
        have c1 : ¬ yI p ≤ 0 := fun h => absurd ((yI_le (m := 0) (by omega) (by decide)).mp h) (by omega)
        have c2 : yI U.1.f = 6 := by rw [show U.1.f = 6 by omega]; rfl
        obtain ⟨w, hw, E, Kw, -⟩ := w_133 (d := d + 2) Mu (c := -5) (by decide) (a := q1)
        have g132n := w_132n (d := d + 2) E.1
        have g137 := fun (lo hi : Int32) => m_137n (d := d) E.1 (lo := lo) (hi := hi)
        refine ⟨w, fun Q => ?_, E, yKn_tr Ku Kw⟩
        show G (d + 3) 143 0 [some (.ref 160), none, none, none, none] [] (yemb t) Q ↔ _
        simp only [s_143_0, s_143_1, s_143_2, s_143_3, s_143_4, s_143_5, s_143_6, s_143_7, s_143_8, s_143_9, s_143_10, s_143_11, s_143_12, s_143_13, s_143_14, s_143_15, s_143_16, s_143_17, s_143_18, s_143_19, s_143_20, s_143_21, s_143_22, s_143_23, s_143_24, s_143_25, s_143_26, s_143_27, s_143_28, s_143_29, s_143_30, s_143_31, s_143_32, s_143_33, s_143_34, s_143_35, s_143_36, s_143_37, s_143_38, s_143_39, s_143_40, s_143_41, s_143_42, s_143_43, s_143_44, s_143_45, s_143_46, s_143_47, s_143_48, s_143_49, s_143_50, s_143_51, s_143_52, s_143_53, s_143_53i, s_143_54, s_143_55, s_143_56, s_143_57, s_143_58, s_143_59, s_143_60, s_143_61, s_143_63, s_143_64, s_143_65, s_143_66, s_143_67, s_143_68, s_143_69, s_143_70, s_143_71, s_143_72, s_143_73, s_143_74, s_143_75, s_143_76, s_143_77, s_143_78, s_143_79, s_143_80, s_143_81, s_143_82, s_143_83, s_143_84, s_143_85, s_143_86, s_143_87, s_143_88, s_143_89, s_143_90, s_143_91, s_143_92, s_143_93, s_143_94, s_143_95, s_143_96, s_143_97, s_143_98, s_143_99, s_143_100, s_143_101, s_143_102, s_143_103, s_143_104, s_143_105, s_143_106, s_143_107, s_143_108, s_143_109, s_143_110, s_143_111, s_143_112, s_143_113, s_143_114, s_143_115, s_143_116, s_143_117, s_143_118, s_143_119, s_143_120, s_143_121, s_143_122, s_143_123, s_143_124, s_143_125, yO_160, yA_163, yn_163, i0, c00, hM.n, en, hu', g132, c10, if_false, h20, hsar, lg_cmp01, ne_eq, not_false_eq_true, if_true, c1, yix3', ycl3, hMu.f, c2, not_true_eq_false, h17, hw, g132n, g137, Gk_v, Gk_n, xcat_nil, xcat_i, xcat_r, xcat_l, xcat_d, Nat.zero_le, Nat.reduceAdd, Nat.reduceLeDiff, true_and, and_true, ykl_i, ykl_r, ykl_n, ykl_l]
      · rw [if_neg h3]
        have hadd : ¬ p = 0 → ynof U.1 p ∧ U.1.f < 6 := fun e => ⟨yfd_no K e h2, by
          have : ¬ 6 ≤ U.1.f := fun h6 => h3 ⟨e, h6⟩
          omega⟩
        have mid : ∀ Q, G (d + 3) 143 0 [some (.ref 160), none, none, none, none] [] (yemb t) Q ↔ G (d + 3) 143 43 [some (.ref 160), some (.int (yI p)), none, none, none] [] (yemb u) Q := by
          intro Q
          by_cases e : p = 0
          · have c1 : yI p ≤ 0 := by rw [e]; decide
            simp only [s_143_0, s_143_1, s_143_2, s_143_3, s_143_4, s_143_5, s_143_6, s_143_7, s_143_8, s_143_9, s_143_10, s_143_11, s_143_12, s_143_13, s_143_14, s_143_15, s_143_16, s_143_17, s_143_18, s_143_19, s_143_20, s_143_21, s_143_22, s_143_23, s_143_24, s_143_25, s_143_26, s_143_27, s_143_28, s_143_29, s_143_30, s_143_31, s_143_32, s_143_33, s_143_34, s_143_35, s_143_36, s_143_37, s_143_38, s_143_39, s_143_40, s_143_41, s_143_42, s_143_44, s_143_45, s_143_46, s_143_47, s_143_48, s_143_49, s_143_50, s_143_51, s_143_52, s_143_53, s_143_53i, s_143_54, s_143_55, s_143_56, s_143_57, s_143_58, s_143_59, s_143_60, s_143_61, s_143_63, s_143_64, s_143_65, s_143_66, s_143_67, s_143_68, s_143_69, s_143_70, s_143_71, s_143_72, s_143_73, s_143_74, s_143_75, s_143_76, s_143_77, s_143_78, s_143_79, s_143_80, s_143_81, s_143_82, s_143_83, s_143_84, s_143_85, s_143_86, s_143_87, s_143_88, s_143_89, s_143_90, s_143_91, s_143_92, s_143_93, s_143_94, s_143_95, s_143_96, s_143_97, s_143_98, s_143_99, s_143_100, s_143_101, s_143_102, s_143_103, s_143_104, s_143_105, s_143_106, s_143_107, s_143_108, s_143_109, s_143_110, s_143_111, s_143_112, s_143_113, s_143_114, s_143_115, s_143_116, s_143_117, s_143_118, s_143_119, s_143_120, s_143_121, s_143_122, s_143_123, s_143_124, s_143_125, yO_160, yA_163, yn_163, i0, c00, hM.n, en, hu', g132, c10, if_false, h20, hsar, lg_cmp01, ne_eq, not_false_eq_true, if_true, c1, Gk_v, Gk_n, xcat_nil, xcat_i, xcat_r, xcat_l, xcat_d, Nat.zero_le, Nat.reduceAdd, Nat.reduceLeDiff, true_and, and_true, ykl_i, ykl_r, ykl_n, ykl_l]
          · have c1 : ¬ yI p ≤ 0 := fun h => absurd ((yI_le (m := 0) (by omega) (by decide)).mp h) (by omega)
            have c2 : ¬ yI U.1.f = 6 := fun h => by
              have := (yI_inj (m := 6) (by omega) (by decide)).mp h
              have := (hadd e).2
              omega
            simp only [s_143_0, s_143_1, s_143_2, s_143_3, s_143_4, s_143_5, s_143_6, s_143_7, s_143_8, s_143_9, s_143_10, s_143_11, s_143_12, s_143_13, s_143_14, s_143_15, s_143_16, s_143_17, s_143_18, s_143_19, s_143_20, s_143_21, s_143_22, s_143_23, s_143_24, s_143_25, s_143_26, s_143_27, s_143_28, s_143_29, s_143_30, s_143_31, s_143_32, s_143_33, s_143_34, s_143_35, s_143_36, s_143_37, s_143_38, s_143_39, s_143_40, s_143_41, s_143_42, s_143_44, s_143_45, s_143_46, s_143_47, s_143_48, s_143_49, s_143_50, s_143_51, s_143_52, s_143_53, s_143_53i, s_143_54, s_143_55, s_143_56, s_143_57, s_143_58, s_143_59, s_143_60, s_143_61, s_143_63, s_143_64, s_143_65, s_143_66, s_143_67, s_143_68, s_143_69, s_143_70, s_143_71, s_143_72, s_143_73, s_143_74, s_143_75, s_143_76, s_143_77, s_143_78, s_143_79, s_143_80, s_143_81, s_143_82, s_143_83, s_143_84, s_143_85, s_143_86, s_143_87, s_143_88, s_143_89, s_143_90, s_143_91, s_143_92, s_143_93, s_143_94, s_143_95, s_143_96, s_143_97, s_143_98, s_143_99, s_143_100, s_143_101, s_143_102, s_143_103, s_143_104, s_143_105, s_143_106, s_143_107, s_143_108, s_143_109, s_143_110, s_143_111, s_143_112, s_143_113, s_143_114, s_143_115, s_143_116, s_143_117, s_143_118, s_143_119, s_143_120, s_143_121, s_143_122, s_143_123, s_143_124, s_143_125, yO_160, yA_163, yn_163, i0, c00, hM.n, en, hu', g132, c10, if_false, h20, hsar, lg_cmp01, ne_eq, not_false_eq_true, if_true, c1, yix3', ycl3, hMu.f, c2, Gk_v, Gk_n, xcat_nil, xcat_i, xcat_r, xcat_l, xcat_d, Nat.zero_le, Nat.reduceAdd, Nat.reduceLeDiff, true_and, and_true, ykl_i, ykl_r, ykl_n, ykl_l]
        subst hq2
        cases h4 : ynum n B (ysk n B m1) 0 9999
        · rw [if_neg (by decide)]
          obtain ⟨w, hw, E, Kw⟩ := w_137f (d := d) Mu (lo := 0) (hi := 9999) (by decide) (by decide) h4
          have hw' : ∀ Q', Cl (d + 2) 137 [.ref 160, .int 0, .int 9999] (yemb u) Q' ↔ Q' (.inl (some (.int 0))) (yemb w) := hw
          have g132n := w_132n (d := d + 2) E.1
          refine ⟨w, fun Q => ?_, E, yKn_tr Ku Kw⟩
          show G (d + 3) 143 0 [some (.ref 160), none, none, none, none] [] (yemb t) Q ↔ _
          rw [mid Q, s_143_43]
          simp only [s_143_0, s_143_1, s_143_2, s_143_3, s_143_4, s_143_5, s_143_6, s_143_7, s_143_8, s_143_9, s_143_10, s_143_11, s_143_12, s_143_13, s_143_14, s_143_15, s_143_16, s_143_17, s_143_18, s_143_19, s_143_20, s_143_21, s_143_22, s_143_23, s_143_24, s_143_25, s_143_26, s_143_27, s_143_28, s_143_29, s_143_30, s_143_31, s_143_32, s_143_33, s_143_34, s_143_35, s_143_36, s_143_37, s_143_38, s_143_39, s_143_40, s_143_41, s_143_42, s_143_44, s_143_45, s_143_46, s_143_47, s_143_48, s_143_49, s_143_50, s_143_51, s_143_52, s_143_53, s_143_53i, s_143_54, s_143_55, s_143_56, s_143_57, s_143_58, s_143_59, s_143_60, s_143_61, s_143_63, s_143_64, s_143_65, s_143_66, s_143_67, s_143_68, s_143_69, s_143_70, s_143_71, s_143_72, s_143_73, s_143_74, s_143_75, s_143_76, s_143_77, s_143_78, s_143_79, s_143_80, s_143_81, s_143_82, s_143_83, s_143_84, s_143_85, s_143_86, s_143_87, s_143_88, s_143_89, s_143_90, s_143_91, s_143_92, s_143_93, s_143_94, s_143_95, s_143_96, s_143_97, s_143_98, s_143_99, s_143_100, s_143_101, s_143_102, s_143_103, s_143_104, s_143_105, s_143_106, s_143_107, s_143_108, s_143_109, s_143_110, s_143_111, s_143_112, s_143_113, s_143_114, s_143_115, s_143_116, s_143_117, s_143_118, s_143_119, s_143_120, s_143_121, s_143_122, s_143_123, s_143_124, s_143_125, yO_160, hw', g132n, ne_eq, not_true_eq_false, if_false, Gk_v, Gk_n, xcat_nil, xcat_i, xcat_r, xcat_l, xcat_d, Nat.zero_le, Nat.reduceAdd, Nat.reduceLeDiff, true_and, and_true, ykl_i, ykl_r, ykl_n, ykl_l]
        · rw [if_pos rfl]
          have hv4 := ynv_lt h4
          obtain ⟨w, hw, Mw, -, Kw⟩ := w_137 (d := d) Mu (lo := 0) (hi := 9999) (by decide) (by decide) h4
          have hw' : ∀ Q', Cl (d + 2) 137 [.ref 160, .int 0, .int 9999] (yemb u) Q' ↔ Q' _ (yemb w) := hw
          have g132w := w_132 (d := d + 2) Mw
          generalize ynv n B (ysk n B m1) = l at *
          have eor : Int64.ofNat U.2.1 ||| (1 : Int64) <<< ((yI p).toInt64 &&& 63) = Int64.ofNat (U.2.1 ||| 2 ^ p) := by
            rw [yL_shl (by omega), yL_or]
          have h20w := Mw.2.2.2.2.2.2.1.1
          have hMw : yM ((w.sL 160 20 (Int64.ofNat (U.2.1 ||| 2 ^ p))).A 163) U.1 := Mw.2.2.2.2.2.1
          obtain ⟨x, hx, Mx, Fx⟩ := l_143c (d := d + 2) hMw (p := p) (l := l) (x3 := none) (x4 := none) (by omega) (by omega) hadd
          have hkn : (yaddf U.1 p l).kd = U.1.kd ∧ (yaddf U.1 p l).n = U.1.n := by
            unfold yaddf
            split <;> exact ⟨rfl, rfl⟩
          have M0 : yMs (w.sL 160 20 (Int64.ofNat (U.2.1 ||| 2 ^ p))) n B (yw ydg B (n - ysk n B m1) (ysk n B m1)) (U.1, (U.2.1 ||| 2 ^ p, U.2.2)) := by
            obtain ⟨y1, y2, y3, y4, y5, y6, ⟨y7, y8⟩, y9⟩ := Mw
            refine ⟨y1, y2, y3, y4, y5, y6, ⟨?_, ?_⟩, y9⟩
            · rw [ysL_same, vp_updL_same]
            · rw [ysL_same, vp_updL_if, if_neg (by decide)]; exact y8
          have M1 := yMs_D M0 Mx Fx (by rw [hkn.1, hkn.2])
          refine ⟨x, _, fun Q => ?_, M1, rfl, yKn_tr (yKn_tr (yKn_tr Ku Kw) yKn_L) (yKn_f3 Fx)⟩
          have hx' := hx Q
          show G (d + 3) 143 0 [some (.ref 160), none, none, none, none] [] (yemb t) Q ↔ _
          rw [mid Q, s_143_43]
          simp only [s_143_0, s_143_1, s_143_2, s_143_3, s_143_4, s_143_5, s_143_6, s_143_7, s_143_8, s_143_9, s_143_10, s_143_11, s_143_12, s_143_13, s_143_14, s_143_15, s_143_16, s_143_17, s_143_18, s_143_19, s_143_20, s_143_21, s_143_22, s_143_23, s_143_24, s_143_25, s_143_26, s_143_27, s_143_28, s_143_29, s_143_30, s_143_31, s_143_32, s_143_33, s_143_34, s_143_35, s_143_36, s_143_37, s_143_38, s_143_39, s_143_40, s_143_41, s_143_42, s_143_44, s_143_45, s_143_46, s_143_47, s_143_48, s_143_49, s_143_50, s_143_51, s_143_52, s_143_53, s_143_53i, s_143_54, s_143_55, s_143_56, s_143_57, s_143_58, s_143_59, s_143_61, s_143_63, s_143_64, s_143_65, s_143_66, s_143_67, s_143_68, s_143_69, s_143_70, s_143_71, s_143_72, s_143_73, s_143_74, s_143_75, s_143_76, s_143_77, s_143_78, s_143_79, s_143_80, s_143_81, s_143_82, s_143_83, s_143_84, s_143_85, s_143_86, s_143_87, s_143_88, s_143_89, s_143_90, s_143_91, s_143_92, s_143_93, s_143_94, s_143_95, s_143_96, s_143_97, s_143_98, s_143_99, s_143_100, s_143_101, s_143_102, s_143_103, s_143_104, s_143_105, s_143_106, s_143_107, s_143_108, s_143_109, s_143_110, s_143_111, s_143_112, s_143_113, s_143_114, s_143_115, s_143_116, s_143_117, s_143_118, s_143_119, s_143_120, s_143_121, s_143_122, s_143_123, s_143_124, s_143_125, yO_160, hw', g132w, c10, ne_eq, not_false_eq_true, if_true, h20w, eor, Gk_v, Gk_n, xcat_nil, xcat_i, xcat_r, xcat_l, xcat_d, Nat.zero_le, Nat.reduceAdd, Nat.reduceLeDiff, true_and, and_true, ykl_i, ykl_r, ykl_n, ykl_l]
          exact hx'
    · rw [h2, if_pos rfl] at hsar
      rw [if_pos rfl]
      obtain ⟨w, hw, E, Kw, -⟩ := w_133 (d := d + 2) Mu (c := -4) (by decide) (a := q1)
      have g132n := w_132n (d := d + 2) E.1
      have g137 := fun (lo hi : Int32) => m_137n (d := d) E.1 (lo := lo) (hi := hi)
      refine ⟨w, fun Q => ?_, E, yKn_tr Ku Kw⟩
      show G (d + 3) 143 0 [some (.ref 160), none, none, none, none] [] (yemb t) Q ↔ _
      simp only [s_143_0, s_143_1, s_143_2, s_143_3, s_143_4, s_143_5, s_143_6, s_143_7, s_143_8, s_143_9, s_143_10, s_143_11, s_143_12, s_143_13, s_143_14, s_143_15, s_143_16, s_143_17, s_143_18, s_143_19, s_143_20, s_143_21, s_143_22, s_143_23, s_143_24, s_143_25, s_143_26, s_143_27, s_143_28, s_143_29, s_143_30, s_143_31, s_143_32, s_143_33, s_143_34, s_143_35, s_143_36, s_143_37, s_143_38, s_143_39, s_143_40, s_143_41, s_143_42, s_143_43, s_143_44, s_143_45, s_143_46, s_143_47, s_143_48, s_143_49, s_143_50, s_143_51, s_143_52, s_143_53, s_143_53i, s_143_54, s_143_55, s_143_56, s_143_57, s_143_58, s_143_59, s_143_60, s_143_61, s_143_63, s_143_64, s_143_65, s_143_66, s_143_67, s_143_68, s_143_69, s_143_70, s_143_71, s_143_72, s_143_73, s_143_74, s_143_75, s_143_76, s_143_77, s_143_78, s_143_79, s_143_80, s_143_81, s_143_82, s_143_83, s_143_84, s_143_85, s_143_86, s_143_87, s_143_88, s_143_89, s_143_90, s_143_91, s_143_92, s_143_93, s_143_94, s_143_95, s_143_96, s_143_97, s_143_98, s_143_99, s_143_100, s_143_101, s_143_102, s_143_103, s_143_104, s_143_105, s_143_106, s_143_107, s_143_108, s_143_109, s_143_110, s_143_111, s_143_112, s_143_113, s_143_114, s_143_115, s_143_116, s_143_117, s_143_118, s_143_119, s_143_120, s_143_121, s_143_122, s_143_123, s_143_124, s_143_125, yO_160, yA_163, yn_163, i0, c00, hM.n, en, hu', g132, c10, if_false, h20, hsar, lg_cmp11, ne_eq, not_true_eq_false, h17, hw, g132n, g137, if_true, Gk_v, Gk_n, xcat_nil, xcat_i, xcat_r, xcat_l, xcat_d, Nat.zero_le, Nat.reduceAdd, Nat.reduceLeDiff, true_and, and_true, ykl_i, ykl_r, ykl_n, ykl_l]
end

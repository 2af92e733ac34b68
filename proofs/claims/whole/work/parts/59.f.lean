/-! ===== the plan: the model's code ===== -/
section
variable {d : Nat}
theorem l_199a {D : yD} (h10 : ycn (yisbad D) D.n ≤ 10) {mx f l : Int32} {b : Int64} {l8 l9 l10 l11 : Option Value} : ∀ m p (t : yT), yM (t.A 162) D → p + m = D.n → ylb t D p → ∃ u, Gg (d + 5) 199 27 [some (.ref 160), some (.int mx), some (.int (yI (ycn (yisbad D) p))), some (.int f), some (.int l), some (.long b), none, some (.int (yI p)), l8, l9, l10, l11] [] (yemb t) 46 [some (.ref 160), some (.int mx), some (.int (yI (ycn (yisbad D) D.n))), some (.int f), some (.int l), some (.long b), none, some (.int (yI D.n)), l8, l9, l10, l11] [] (yemb u) ∧ (ylb u D D.n ∧ yFr (fun a => a = 182) t u) := by
  intro m
  induction m with
  | zero =>
    intro p t M hp L
    have hn40 := M.ok.n40
    have e : p = D.n := by omega
    subst e
    have h1 : yI D.n ≤ yI D.n := Int32.le_refl _
    refine ⟨t, fun Q => ?_, L, yFr.rfl'⟩
    rw [s_199_27]
    simp only [s_199_0, s_199_1, s_199_2, s_199_3, s_199_4, s_199_5, s_199_6, s_199_7, s_199_8, s_199_9, s_199_10, s_199_11, s_199_12, s_199_13, s_199_14, s_199_15, s_199_16, s_199_17, s_199_18, s_199_19, s_199_20, s_199_21, s_199_22, s_199_23, s_199_24, s_199_25, s_199_26, s_199_28, s_199_29, s_199_30, s_199_31, s_199_32, s_199_33, s_199_34, s_199_35, s_199_36, s_199_37, s_199_38, s_199_39, s_199_40, s_199_41, s_199_42, s_199_43, s_199_44, s_199_45, s_199_47, s_199_48, s_199_49, s_199_50, s_199_51, s_199_52, s_199_53, s_199_54, s_199_55, s_199_56, s_199_57, s_199_58, s_199_59, s_199_60, s_199_61, s_199_62, s_199_63, s_199_64, s_199_65, s_199_66, s_199_67, s_199_68, s_199_69, s_199_70, s_199_71, s_199_72, s_199_73, s_199_74, s_199_75, s_199_76, s_199_77, s_199_78, s_199_79, s_199_80, s_199_81, s_199_82, s_199_83, s_199_84, s_199_85, s_199_86, s_199_87, s_199_88, s_199_89, s_199_90, s_199_91, s_199_92, s_199_93, s_199_94, s_199_95, s_199_96, s_199_97, s_199_98, s_199_99, s_199_100, s_199_101, s_199_102, s_199_103, s_199_104, s_199_105, s_199_106, s_199_107, s_199_108, s_199_109, s_199_110, s_199_111, s_199_112, s_199_113, s_199_114, s_199_115, s_199_116, s_199_117, s_199_118, s_199_119, s_199_120, s_199_121, s_199_122, s_199_123, s_199_124, s_199_125, s_199_126, s_199_127, s_199_128, s_199_129, s_199_130, s_199_131, s_199_132, s_199_133, s_199_134, s_199_135, s_199_136, s_199_137, yO_160, yA_162, yn_162, yix0, ycl0, M.n, h1, if_true, Gk_v, Gk_n, xcat_nil, xcat_i, xcat_r, xcat_l, xcat_d, Nat.zero_le, Nat.reduceAdd, Nat.reduceLeDiff, true_and, and_true, ykl_i, ykl_r, ykl_n, ykl_l]
  | succ m ih =>
    intro p t M hp L
    have hn40 := M.ok.n40
    have h1 : ¬ yI D.n ≤ yI p := fun h => absurd ((yI_le (by omega) (by omega)).mp h) (by omega)
    have h4 : yI p + 1 = yI (p + 1) := yI_add
    have g := m_187 (d := d + 2) M (show p < 40 by omega)
    cases hb : yisbad D p
    · have e0 : ycn (yisbad D) (p + 1) = ycn (yisbad D) p := by
        rw [ycn, hb]
        rfl
      have L1 : ylb t D (p + 1) := by
        intro q hq
        rw [e0] at hq
        obtain ⟨c, g1, g2⟩ := L q hq
        exact ⟨c, by omega, g2⟩
      obtain ⟨u, hu, Lu, Fu⟩ := ih (p + 1) t M (by omega) L1
      rw [e0] at hu
      refine ⟨u, fun Q => ?_, Lu, Fu⟩
      rw [hb] at g
      rw [s_199_27]
      simp only [s_199_0, s_199_1, s_199_2, s_199_3, s_199_4, s_199_5, s_199_6, s_199_7, s_199_8, s_199_9, s_199_10, s_199_11, s_199_12, s_199_13, s_199_14, s_199_15, s_199_16, s_199_17, s_199_18, s_199_19, s_199_20, s_199_21, s_199_22, s_199_23, s_199_24, s_199_25, s_199_26, s_199_28, s_199_29, s_199_30, s_199_31, s_199_32, s_199_33, s_199_34, s_199_35, s_199_36, s_199_37, s_199_38, s_199_39, s_199_40, s_199_41, s_199_42, s_199_43, s_199_44, s_199_45, s_199_47, s_199_48, s_199_49, s_199_50, s_199_51, s_199_52, s_199_53, s_199_54, s_199_55, s_199_56, s_199_57, s_199_58, s_199_59, s_199_60, s_199_61, s_199_62, s_199_63, s_199_64, s_199_65, s_199_66, s_199_67, s_199_68, s_199_69, s_199_70, s_199_71, s_199_72, s_199_73, s_199_74, s_199_75, s_199_76, s_199_77, s_199_78, s_199_79, s_199_80, s_199_81, s_199_82, s_199_83, s_199_84, s_199_85, s_199_86, s_199_87, s_199_88, s_199_89, s_199_90, s_199_91, s_199_92, s_199_93, s_199_94, s_199_95, s_199_96, s_199_97, s_199_98, s_199_99, s_199_100, s_199_101, s_199_102, s_199_103, s_199_104, s_199_105, s_199_106, s_199_107, s_199_108, s_199_109, s_199_110, s_199_111, s_199_112, s_199_113, s_199_114, s_199_115, s_199_116, s_199_117, s_199_118, s_199_119, s_199_120, s_199_121, s_199_122, s_199_123, s_199_124, s_199_125, s_199_126, s_199_127, s_199_128, s_199_129, s_199_130, s_199_131, s_199_132, s_199_133, s_199_134, s_199_135, s_199_136, s_199_137, yO_160, yA_162, yn_162, yix0, ycl0, M.n, h1, if_false, g, ifbn, Bool.false_eq_true, h4, hu, Gk_v, Gk_n, xcat_nil, xcat_i, xcat_r, xcat_l, xcat_d, Nat.zero_le, Nat.reduceAdd, Nat.reduceLeDiff, true_and, and_true, ykl_i, ykl_r, ykl_n, ykl_l]
    · have e0 : ycn (yisbad D) (p + 1) = ycn (yisbad D) p + 1 := by
        rw [ycn, hb]
        rfl
      have hlt : ycn (yisbad D) p < ycn (yisbad D) D.n := ycn_lt (by omega) hb
      have h2 : yix (yI (ycn (yisbad D) p)) 10 := yix_I (by omega) (by omega)
      have h3 : (yI (ycn (yisbad D) p)).toNatClampNeg = ycn (yisbad D) p := yI_clamp (by omega)
      have h5 : yI (ycn (yisbad D) p) + 1 = yI (ycn (yisbad D) p + 1) := yI_add
      have F1 : yFr (fun a => a = 182) t (t.s1 182 (ycn (yisbad D) p) (yI p)) := yFr_s1 rfl
      have L1 : ylb (t.s1 182 (ycn (yisbad D) p) (yI p)) D (p + 1) := by
        intro q hq
        rw [e0] at hq
        rw [ys1_upd]
        by_cases e : q = ycn (yisbad D) p
        · refine ⟨p, by omega, ?_, hb, e.symm⟩
          rw [e, yupd_same]
        · obtain ⟨c, g1, g2, g3⟩ := L q (by omega)
          refine ⟨c, by omega, ?_, g3⟩
          rw [yupd_ne e]
          exact g2
      obtain ⟨u, hu, Lu, Fu⟩ := ih (p + 1) _ (yM_ne M F1 (by decide)) (by omega) L1
      rw [e0] at hu
      refine ⟨u, fun Q => ?_, Lu, F1.trans Fu (fun a h => by omega)⟩
      rw [hb] at g
      rw [s_199_27]
      simp only [s_199_0, s_199_1, s_199_2, s_199_3, s_199_4, s_199_5, s_199_6, s_199_7, s_199_8, s_199_9, s_199_10, s_199_11, s_199_12, s_199_13, s_199_14, s_199_15, s_199_16, s_199_17, s_199_18, s_199_19, s_199_20, s_199_21, s_199_22, s_199_23, s_199_24, s_199_25, s_199_26, s_199_28, s_199_29, s_199_30, s_199_31, s_199_32, s_199_33, s_199_34, s_199_35, s_199_36, s_199_37, s_199_38, s_199_39, s_199_40, s_199_41, s_199_42, s_199_43, s_199_44, s_199_45, s_199_47, s_199_48, s_199_49, s_199_50, s_199_51, s_199_52, s_199_53, s_199_54, s_199_55, s_199_56, s_199_57, s_199_58, s_199_59, s_199_60, s_199_61, s_199_62, s_199_63, s_199_64, s_199_65, s_199_66, s_199_67, s_199_68, s_199_69, s_199_70, s_199_71, s_199_72, s_199_73, s_199_74, s_199_75, s_199_76, s_199_77, s_199_78, s_199_79, s_199_80, s_199_81, s_199_82, s_199_83, s_199_84, s_199_85, s_199_86, s_199_87, s_199_88, s_199_89, s_199_90, s_199_91, s_199_92, s_199_93, s_199_94, s_199_95, s_199_96, s_199_97, s_199_98, s_199_99, s_199_100, s_199_101, s_199_102, s_199_103, s_199_104, s_199_105, s_199_106, s_199_107, s_199_108, s_199_109, s_199_110, s_199_111, s_199_112, s_199_113, s_199_114, s_199_115, s_199_116, s_199_117, s_199_118, s_199_119, s_199_120, s_199_121, s_199_122, s_199_123, s_199_124, s_199_125, s_199_126, s_199_127, s_199_128, s_199_129, s_199_130, s_199_131, s_199_132, s_199_133, s_199_134, s_199_135, s_199_136, s_199_137, yO_160, yA_162, yn_162, yix0, ycl0, M.n, h1, if_false, if_true, g, ifbn, yA_182, yn_182, h2, h3, h4, h5, hu, Gk_v, Gk_n, xcat_nil, xcat_i, xcat_r, xcat_l, xcat_d, Nat.zero_le, Nat.reduceAdd, Nat.reduceLeDiff, true_and, and_true, ykl_i, ykl_r, ykl_n, ykl_l]
theorem l_199b {D : yD} (hD : yDok D) {M i : Nat} (hM : M ≤ 10) (hi : i < 1024) {bad : Nat → Nat} (hbn : ∀ q, q < M → bad q < D.n) {mx f l : Int32} {b : Int64} : ∀ m j (t : yT), yM (t.A 162) (D.sbw (D.bw ||| yps bad i j)) → (∀ q, q < M → t.A 182 q = yI (bad q)) → j + m = M → ∃ u, Gg (d + 5) 199 65 [some (.ref 160), some (.int mx), some (.int (yI M)), some (.int f), some (.int l), some (.long b), none, some (.int (yI i)), some (.int (yI (ycn i.testBit j))), some (.long (Int64.ofNat (yps bad i j))), none, some (.int (yI j))] [] (yemb t) 95 [some (.ref 160), some (.int mx), some (.int (yI M)), some (.int f), some (.int l), some (.long b), none, some (.int (yI i)), some (.int (yI (ycn i.testBit M))), some (.long (Int64.ofNat (yps bad i M))), none, some (.int (yI M))] [] (yemb u) ∧ (yM (u.A 162) (D.sbw (D.bw ||| yps bad i M)) ∧ yFr (fun a => a = 162) t u) := by
  have hn40 := hD.n40
  intro m
  induction m with
  | zero =>
    intro j t M1 hl hj
    have e : j = M := by omega
    subst e
    have h1 : yI j ≤ yI j := Int32.le_refl _
    refine ⟨t, fun Q => ?_, M1, yFr.rfl'⟩
    rw [s_199_65]
    simp only [s_199_0, s_199_1, s_199_2, s_199_3, s_199_4, s_199_5, s_199_6, s_199_7, s_199_8, s_199_9, s_199_10, s_199_11, s_199_12, s_199_13, s_199_14, s_199_15, s_199_16, s_199_17, s_199_18, s_199_19, s_199_20, s_199_21, s_199_22, s_199_23, s_199_24, s_199_25, s_199_26, s_199_27, s_199_28, s_199_29, s_199_30, s_199_31, s_199_32, s_199_33, s_199_34, s_199_35, s_199_36, s_199_37, s_199_38, s_199_39, s_199_40, s_199_41, s_199_42, s_199_43, s_199_44, s_199_45, s_199_46, s_199_47, s_199_48, s_199_49, s_199_50, s_199_51, s_199_52, s_199_53, s_199_54, s_199_55, s_199_56, s_199_57, s_199_58, s_199_59, s_199_60, s_199_61, s_199_62, s_199_63, s_199_64, s_199_66, s_199_67, s_199_68, s_199_69, s_199_70, s_199_71, s_199_72, s_199_73, s_199_74, s_199_75, s_199_76, s_199_77, s_199_78, s_199_79, s_199_80, s_199_81, s_199_82, s_199_83, s_199_84, s_199_85, s_199_86, s_199_87, s_199_88, s_199_89, s_199_90, s_199_91, s_199_92, s_199_93, s_199_94, s_199_96, s_199_97, s_199_98, s_199_99, s_199_100, s_199_101, s_199_102, s_199_103, s_199_104, s_199_105, s_199_106, s_199_107, s_199_108, s_199_109, s_199_110, s_199_111, s_199_112, s_199_113, s_199_114, s_199_115, s_199_116, s_199_117, s_199_118, s_199_119, s_199_120, s_199_121, s_199_122, s_199_123, s_199_124, s_199_125, s_199_126, s_199_127, s_199_128, s_199_129, s_199_130, s_199_131, s_199_132, s_199_133, s_199_134, s_199_135, s_199_136, s_199_137, h1, if_true, Gk_v, Gk_n, xcat_nil, xcat_i, xcat_r, xcat_l, xcat_d, Nat.zero_le, Nat.reduceAdd, Nat.reduceLeDiff, true_and, and_true, ykl_i, ykl_r, ykl_n, ykl_l]
  | succ m ih =>
    intro j t M1 hl hj
    have h1 : ¬ yI M ≤ yI j := fun h => absurd ((yI_le (by omega) (by omega)).mp h) (by omega)
    have h4 : yI j + 1 = yI (j + 1) := yI_add
    have hbit := yI_bit (i := i) (j := j) (by omega) (by omega)
    have e0 : yps bad i (j + 1) = if i.testBit j = true then yps bad i j ||| 2 ^ bad j else yps bad i j := rfl
    have e1 : ycn i.testBit (j + 1) = ycn i.testBit j + (if i.testBit j = true then 1 else 0) := rfl
    cases hb : i.testBit j
    · rw [hb, if_neg (by decide)] at e0 e1
      obtain ⟨u, hu, Mu, Fu⟩ := ih (j + 1) t (by rw [e0]; exact M1) hl (by omega)
      have e2 : ycn i.testBit (j + 1) = ycn i.testBit j := e1
      rw [e0, e2] at hu
      refine ⟨u, fun Q => ?_, Mu, Fu⟩
      rw [hb] at hbit
      rw [s_199_65]
      simp only [s_199_0, s_199_1, s_199_2, s_199_3, s_199_4, s_199_5, s_199_6, s_199_7, s_199_8, s_199_9, s_199_10, s_199_11, s_199_12, s_199_13, s_199_14, s_199_15, s_199_16, s_199_17, s_199_18, s_199_19, s_199_20, s_199_21, s_199_22, s_199_23, s_199_24, s_199_25, s_199_26, s_199_27, s_199_28, s_199_29, s_199_30, s_199_31, s_199_32, s_199_33, s_199_34, s_199_35, s_199_36, s_199_37, s_199_38, s_199_39, s_199_40, s_199_41, s_199_42, s_199_43, s_199_44, s_199_45, s_199_46, s_199_47, s_199_48, s_199_49, s_199_50, s_199_51, s_199_52, s_199_53, s_199_54, s_199_55, s_199_56, s_199_57, s_199_58, s_199_59, s_199_60, s_199_61, s_199_62, s_199_63, s_199_64, s_199_66, s_199_67, s_199_68, s_199_69, s_199_70, s_199_71, s_199_72, s_199_73, s_199_74, s_199_75, s_199_76, s_199_77, s_199_78, s_199_79, s_199_80, s_199_81, s_199_82, s_199_83, s_199_84, s_199_85, s_199_86, s_199_87, s_199_88, s_199_89, s_199_90, s_199_91, s_199_92, s_199_93, s_199_94, s_199_96, s_199_97, s_199_98, s_199_99, s_199_100, s_199_101, s_199_102, s_199_103, s_199_104, s_199_105, s_199_106, s_199_107, s_199_108, s_199_109, s_199_110, s_199_111, s_199_112, s_199_113, s_199_114, s_199_115, s_199_116, s_199_117, s_199_118, s_199_119, s_199_120, s_199_121, s_199_122, s_199_123, s_199_124, s_199_125, s_199_126, s_199_127, s_199_128, s_199_129, s_199_130, s_199_131, s_199_132, s_199_133, s_199_134, s_199_135, s_199_136, s_199_137, h1, if_false, hbit, ifbn, Bool.false_eq_true, h4, hu, Gk_v, Gk_n, xcat_nil, xcat_i, xcat_r, xcat_l, xcat_d, Nat.zero_le, Nat.reduceAdd, Nat.reduceLeDiff, true_and, and_true, ykl_i, ykl_r, ykl_n, ykl_l]
    · rw [hb, if_pos rfl] at e0 e1
      have hbj := hbn j (by omega)
      have hlj := hl j (by omega)
      have h2 : yix (yI j) 10 := yix_I (by omega) (by omega)
      have h3 : (yI j).toNatClampNeg = j := yI_clamp (by omega)
      have h5 : yI (ycn i.testBit j) + 1 = yI (ycn i.testBit j + 1) := yI_add
      have h6 : (1 : Int64) <<< ((yI (bad j)).toInt64 &&& 63) = Int64.ofNat (2 ^ bad j) := yL_shl (by omega)
      have g2 : ∀ Q', Cl (d + 4) 163 [.ref 160, .int (yI (bad j)), .int 1, .int 1] (yemb t) Q' ↔ Q' (.inl none) (yemb (t.s1 162 (8 + 8 * bad j + 1) 1)) := fun Q' => m_163 (d := d + 3) (w := 1) (by omega) (by omega)
      have hlt : D.bw ||| (yps bad i j ||| 2 ^ bad j) < 2 ^ D.n := Nat.or_lt_two_pow hD.bwn (Nat.or_lt_two_pow (yps_lt j (fun q hq => hbn q (by omega))) (Nat.pow_lt_pow_right (by decide) hbj))
      have M2 : yM ((t.s1 162 (8 + 8 * bad j + 1) 1).A 162) (D.sbw (D.bw ||| yps bad i (j + 1))) := by
        rw [e0]
        refine ⟨yDok_sbw hD hlt, ?_⟩
        rw [ys1_upd]
        have h := yN_sbp (v := 0) (b := true) (w := D.bw ||| (yps bad i j ||| 2 ^ bad j)) M1.v (show bad j < 40 by omega) (fun q hq => by
          rw [ysbw_bp, Nat.testBit_or, Nat.testBit_or, Nat.testBit_two_pow, Nat.testBit_or]
          by_cases e : q = bad j
          · subst e
            simp
          · have e' : ¬ bad j = q := fun h => e h.symm
            simp [e, e'])
        exact h
      have F1 : yFr (fun a => a = 162) t (t.s1 162 (8 + 8 * bad j + 1) 1) := yFr_s1 rfl
      obtain ⟨u, hu, Mu, Fu⟩ := ih (j + 1) _ M2 (fun q hq => by rw [F1.A (by decide)]; exact hl q hq) (by omega)
      rw [e0, e1] at hu
      refine ⟨u, fun Q => ?_, Mu, F1.trans Fu (fun a h => by omega)⟩
      rw [hb] at hbit
      rw [s_199_65]
      simp only [s_199_0, s_199_1, s_199_2, s_199_3, s_199_4, s_199_5, s_199_6, s_199_7, s_199_8, s_199_9, s_199_10, s_199_11, s_199_12, s_199_13, s_199_14, s_199_15, s_199_16, s_199_17, s_199_18, s_199_19, s_199_20, s_199_21, s_199_22, s_199_23, s_199_24, s_199_25, s_199_26, s_199_27, s_199_28, s_199_29, s_199_30, s_199_31, s_199_32, s_199_33, s_199_34, s_199_35, s_199_36, s_199_37, s_199_38, s_199_39, s_199_40, s_199_41, s_199_42, s_199_43, s_199_44, s_199_45, s_199_46, s_199_47, s_199_48, s_199_49, s_199_50, s_199_51, s_199_52, s_199_53, s_199_54, s_199_55, s_199_56, s_199_57, s_199_58, s_199_59, s_199_60, s_199_61, s_199_62, s_199_63, s_199_64, s_199_66, s_199_67, s_199_68, s_199_69, s_199_70, s_199_71, s_199_72, s_199_73, s_199_74, s_199_75, s_199_76, s_199_77, s_199_78, s_199_79, s_199_80, s_199_81, s_199_82, s_199_83, s_199_84, s_199_85, s_199_86, s_199_87, s_199_88, s_199_89, s_199_90, s_199_91, s_199_92, s_199_93, s_199_94, s_199_96, s_199_97, s_199_98, s_199_99, s_199_100, s_199_101, s_199_102, s_199_103, s_199_104, s_199_105, s_199_106, s_199_107, s_199_108, s_199_109, s_199_110, s_199_111, s_199_112, s_199_113, s_199_114, s_199_115, s_199_116, s_199_117, s_199_118, s_199_119, s_199_120, s_199_121, s_199_122, s_199_123, s_199_124, s_199_125, s_199_126, s_199_127, s_199_128, s_199_129, s_199_130, s_199_131, s_199_132, s_199_133, s_199_134, s_199_135, s_199_136, s_199_137, h1, if_false, if_true, hbit, ifbn, yO_160, yA_182, yn_182, h2, h3, hlj, h6, yL_or, g2, h4, h5, hu, Gk_v, Gk_n, xcat_nil, xcat_i, xcat_r, xcat_l, xcat_d, Nat.zero_le, Nat.reduceAdd, Nat.reduceLeDiff, true_and, and_true, ykl_i, ykl_r, ykl_n, ykl_l]
end

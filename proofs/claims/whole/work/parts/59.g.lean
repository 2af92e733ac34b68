/-! ===== the plan whole ===== -/
section
variable {d : Nat}
theorem l_199 {D : yD} (hD : yDok D) {S0 : Nat → Int32} (N0 : yN S0 D) {M : Nat} (hM : M = ycn (yisbad D) D.n) (h10 : M ≤ 10) {bad : Nat → Nat} (hb : ∀ q, q < M → bad q < D.n ∧ (yisbad D (bad q) = true ∧ ycn (yisbad D) (bad q) = q)) {mx : Int32} : ∀ m i (t : yT) (s : Int64 × (Int32 × Int32)) l8 l9 l10 l11, yM (t.A 162) D → (∀ j, j < 340 → t.A 165 j = S0 j) → (∀ q, q < M → t.A 182 q = yI (bad q)) → i + m = 2 ^ M → ∃ u, Ga (d + 5) 199 54 [some (.ref 160), some (.int mx), some (.int (yI M)), some (.int s.2.1), some (.int s.2.2), some (.long s.1), none, some (.int (yI i)), l8, l9, l10, l11] [] (yemb t) (.inl (some (.long (yfold (ysM (ydue D) (ybadset D) mx) m i s).1))) (yemb u) ∧ (yM (u.A 162) D ∧ yFr (fun a => a = 162 ∨ a = 180) t u) := by
  have hn40 := hD.n40
  have h1024 : 2 ^ M ≤ 2 ^ 10 := Nat.pow_le_pow_right (by decide) h10
  have hbw : (ydue D).bw = D.bw := by rw [ydue_eq, ysdu_bw]
  have eM : (1 : Int32) <<< (yI M &&& 31) = yI (2 ^ M) := yI_shl M (by omega)
  have hw := ybadset_lt hD
  have hw40 : ybadset D < 2 ^ 40 := Nat.lt_of_lt_of_le hw (Nat.pow_le_pow_right (by decide) hn40)
  have eM64 : ypc 64 (ybadset D) = M := by rw [ybadset_pc hD, hM]
  have eM40 : ypc 40 (ybadset D) = M := by rw [ypc_40 hw40, eM64]
  have n165 : (340 : Nat) ≤ yn 165 := by rw [yn_165]; omega
  have n162 : (340 : Nat) ≤ yn 162 := by rw [yn_162]; omega
  have c340 : yI 340 = 340 := rfl
  intro m
  induction m with
  | zero =>
    intro i t s l8 l9 l10 l11 M1 h5 hl hi
    have h1 : yI (2 ^ M) ≤ yI i := (yI_le (by omega) (by omega)).mpr (by omega)
    have hz : yfold (ysM (ydue D) (ybadset D) mx) 0 i s = s := rfl
    refine ⟨t, fun Q => ?_, M1, yFr.rfl'⟩
    rw [s_199_54, hz]
    simp only [s_199_55, s_199_56, s_199_57, s_199_58, s_199_136, s_199_137, eM, h1, if_true]
  | succ m ih =>
    intro i t s l8 l9 l10 l11 M1 h5 hl hi
    have h1 : ¬ yI (2 ^ M) ≤ yI i := fun h => absurd ((yI_le (by omega) (by omega)).mp h) (by omega)
    have h4 : yI i + 1 = yI (i + 1) := yI_add
    have M1' : yM (t.A 162) (D.sbw (D.bw ||| yps bad i 0)) := by
      have e : D.bw ||| yps bad i 0 = D.bw := Nat.or_zero _
      rw [e]
      exact M1
    obtain ⟨u1, hu1, M2, F1⟩ := l_199b (d := d) hD h10 (show i < 1024 by omega) (fun q hq => (hb q hq).1) (mx := mx) (f := s.2.1) (l := s.2.2) (b := s.1) M 0 t M1' hl (Nat.zero_add _)
    have ePd : yps bad i M = ypd 40 (ybadset D) i := by
      rw [hM]
      exact yps_pd hn40 (fun q hq => hb q (by omega)) i
    have eSz : ycn i.testBit M = ypc 64 (ypd 40 (ybadset D) i) := by
      have hs := ypd_sub 40 (ybadset D) i hw40
      rw [← ypc_40 (by omega), ypd_pc 40 (ybadset D) i (by rw [eM40]; omega), eM40, ypc_cn]
    rw [ePd, eSz] at hu1
    rw [ePd] at M2
    generalize hsz : ypc 64 (ypd 40 (ybadset D) i) = sz at *
    have hX : D.bw ||| ypd 40 (ybadset D) i < 2 ^ D.n := by
      have hs := ypd_sub 40 (ybadset D) i hw40
      exact Nat.or_lt_two_pow hD.bwn (by omega)
    have hstep : yfold (ysM (ydue D) (ybadset D) mx) (m + 1) i s = yfold (ysM (ydue D) (ybadset D) mx) m (i + 1) (ysM (ydue D) (ybadset D) mx i s) := rfl
    rw [hstep]
    have hC : ysM (ydue D) (ybadset D) mx i s = if yI sz ≤ mx then (if s.2.1 = -1 ∨ (ycw (ydue D) (D.bw ||| ypd 40 (ybadset D) i) < s.2.1 ∨ (ycw (ydue D) (D.bw ||| ypd 40 (ybadset D) i) = s.2.1 ∧ (yI sz < s.2.2 ∨ (yI sz = s.2.2 ∧ ¬ s.1 ≤ Int64.ofNat (ypd 40 (ybadset D) i))))) then (Int64.ofNat (ypd 40 (ybadset D) i), (ycw (ydue D) (D.bw ||| ypd 40 (ybadset D) i), yI sz)) else s) else s := by
      unfold ysM
      rw [hsz, hbw]
    -- the way back
    have back : ∀ (v : yT) (X : yD) (P : Nat → Prop), yFr P t v → (∀ a, P a → a = 162 ∨ a = 180) → yM (v.A 162) X → X.cn = D.cn → X.cg = D.cg → yM ((v.sA 162 (fun j => if j < 340 then v.A 165 j else v.A 162 j)).A 162) D ∧ ((∀ j, j < 340 → (v.sA 162 (fun j => if j < 340 then v.A 165 j else v.A 162 j)).A 165 j = S0 j) ∧ ((∀ q, q < M → (v.sA 162 (fun j => if j < 340 then v.A 165 j else v.A 162 j)).A 182 q = yI (bad q)) ∧ yFr (fun a => a = 162 ∨ a = 180) t (v.sA 162 (fun j => if j < 340 then v.A 165 j else v.A 162 j)))) := by
      intro v X P F hP MX e1 e2
      have nP : ∀ a, a ≠ 162 → a ≠ 180 → ¬ P a := fun a g1 g2 h => by have := hP a h; omega
      have e165 : v.A 165 = t.A 165 := F.A (nP _ (by decide) (by decide))
      refine ⟨⟨hD, yN_back hD N0 MX.v e1 e2 (fun j => ?_)⟩, fun j hj => ?_, fun q hq => ?_, F.trans (yFr_sA (P := fun a => a = 162) rfl) (fun a h => h.elim (hP a) Or.inl)⟩
      · rw [ysA_same]
        by_cases hj : j < 340
        · simp only [hj, if_true, e165, h5 j hj]
        · simp only [hj, if_false]
      · rw [ysA_ne (by decide), e165]
        exact h5 j hj
      · rw [ysA_ne (by decide), F.A (nP _ (by decide) (by decide))]
        exact hl q hq
    have q127 := fun (v : yT) (Q' : xR → xS → Prop) => m_127 (d := d + 4) (n := 340) yA_165 yA_162 (by decide) n165 n162 (by decide) v Q'
    rw [c340] at q127
    by_cases c1 : yI sz ≤ mx
    · have c1' : ¬ mx < yI sz := Int32.not_lt.mpr c1
      rw [if_pos c1] at hC
      obtain ⟨u2, hu2, M3, F2⟩ := m_179 (d := d) M2
      have g173 := fun Q' => m_173 (d := d + 1) (Q := Q') M3
      rw [ycw_eq hD hX] at g173
      have hps := ypassD_same (ydue (D.sbw (D.bw ||| ypd 40 (ybadset D) i)))
      have eu := ydue_eq (D.sbw (D.bw ||| ypd 40 (ybadset D) i))
      obtain ⟨Mb, b5, bl, Fb⟩ := back u2 _ (fun a => a = 162 ∨ a = 180) (F1.trans F2 (fun a h => by omega)) (fun a h => h) M3 (by rw [hps.2.2.2.2.2.2.2.2.2.2.2.1, eu, ysdu_cn, ysbw_cn]) (by rw [hps.2.2.2.2.2.2.2.2.2.2.2.2, eu, ysdu_cg, ysbw_cg])
      generalize hc : ycw (ydue D) (D.bw ||| ypd 40 (ybadset D) i) = c at *
      obtain ⟨u, hu, Mu, Fu⟩ := ih (i + 1) _ (ysM (ydue D) (ybadset D) mx i s) (some (.int (yI sz))) (some (.long (Int64.ofNat (ypd 40 (ybadset D) i)))) none (some (.int c)) Mb b5 bl (by omega)
      refine ⟨u, fun Q => ?_, Mu, Fb.trans Fu (fun a h => by omega)⟩
      have hu' := hu Q
      have hu1' := hu1 Q
      rw [s_199_54]
      simp only [s_199_0, s_199_1, s_199_2, s_199_3, s_199_4, s_199_5, s_199_6, s_199_7, s_199_8, s_199_9, s_199_10, s_199_11, s_199_12, s_199_13, s_199_14, s_199_15, s_199_16, s_199_17, s_199_18, s_199_19, s_199_20, s_199_21, s_199_22, s_199_23, s_199_24, s_199_25, s_199_26, s_199_27, s_199_28, s_199_29, s_199_30, s_199_31, s_199_32, s_199_33, s_199_34, s_199_35, s_199_36, s_199_37, s_199_38, s_199_39, s_199_40, s_199_41, s_199_42, s_199_43, s_199_44, s_199_45, s_199_46, s_199_47, s_199_48, s_199_49, s_199_50, s_199_51, s_199_52, s_199_53, s_199_55, s_199_56, s_199_57, s_199_58, s_199_59, s_199_60, s_199_61, s_199_62, s_199_63, s_199_64, s_199_66, s_199_67, s_199_68, s_199_69, s_199_70, s_199_71, s_199_72, s_199_73, s_199_74, s_199_75, s_199_76, s_199_77, s_199_78, s_199_79, s_199_80, s_199_81, s_199_82, s_199_83, s_199_84, s_199_85, s_199_86, s_199_87, s_199_88, s_199_89, s_199_90, s_199_91, s_199_92, s_199_93, s_199_94, s_199_96, s_199_97, s_199_98, s_199_99, s_199_100, s_199_101, s_199_102, s_199_103, s_199_104, s_199_105, s_199_106, s_199_107, s_199_108, s_199_109, s_199_110, s_199_111, s_199_112, s_199_113, s_199_114, s_199_115, s_199_116, s_199_117, s_199_118, s_199_119, s_199_120, s_199_121, s_199_122, s_199_123, s_199_124, s_199_125, s_199_126, s_199_127, s_199_128, s_199_129, s_199_130, s_199_131, s_199_132, s_199_133, s_199_134, s_199_135, s_199_136, s_199_137, eM, h1, if_false, Gk_v, Gk_n, xcat_nil, xcat_i, xcat_r, xcat_l, xcat_d, Nat.zero_le, Nat.reduceAdd, Nat.reduceLeDiff, true_and, and_true, ykl_i, ykl_r, ykl_n, ykl_l]
      rw [show (0 : Int32) = yI 0 from rfl]
      refine Iff.trans hu1' ?_
      rw [s_199_95]
      by_cases d1 : s.2.1 = -1
      · rw [if_pos (Or.inl d1)] at hC
        rw [hC] at hu' ⊢
        simp only [s_199_0, s_199_1, s_199_2, s_199_3, s_199_4, s_199_5, s_199_6, s_199_7, s_199_8, s_199_9, s_199_10, s_199_11, s_199_12, s_199_13, s_199_14, s_199_15, s_199_16, s_199_17, s_199_18, s_199_19, s_199_20, s_199_21, s_199_22, s_199_23, s_199_24, s_199_25, s_199_26, s_199_27, s_199_28, s_199_29, s_199_30, s_199_31, s_199_32, s_199_33, s_199_34, s_199_35, s_199_36, s_199_37, s_199_38, s_199_39, s_199_40, s_199_41, s_199_42, s_199_43, s_199_44, s_199_45, s_199_46, s_199_47, s_199_48, s_199_49, s_199_50, s_199_51, s_199_52, s_199_53, s_199_55, s_199_56, s_199_57, s_199_58, s_199_59, s_199_60, s_199_61, s_199_62, s_199_63, s_199_64, s_199_66, s_199_67, s_199_68, s_199_69, s_199_70, s_199_71, s_199_72, s_199_73, s_199_74, s_199_75, s_199_76, s_199_77, s_199_78, s_199_79, s_199_80, s_199_81, s_199_82, s_199_83, s_199_84, s_199_85, s_199_86, s_199_87, s_199_88, s_199_89, s_199_90, s_199_91, s_199_92, s_199_93, s_199_94, s_199_96, s_199_97, s_199_98, s_199_99, s_199_100, s_199_101, s_199_102, s_199_103, s_199_104, s_199_105, s_199_106, s_199_107, s_199_108, s_199_109, s_199_110, s_199_111, s_199_112, s_199_113, s_199_114, s_199_115, s_199_116, s_199_117, s_199_118, s_199_119, s_199_120, s_199_121, s_199_122, s_199_123, s_199_124, s_199_125, s_199_126, s_199_127, s_199_128, s_199_129, s_199_130, s_199_131, s_199_132, s_199_133, s_199_134, s_199_135, s_199_136, s_199_137, yO_160, yA_162, yA_165, c1', d1, if_true, if_false, hu2, g173, q127, ne_eq, not_true_eq_false, h4, Gk_v, Gk_n, xcat_nil, xcat_i, xcat_r, xcat_l, xcat_d, Nat.zero_le, Nat.reduceAdd, Nat.reduceLeDiff, true_and, and_true, ykl_i, ykl_r, ykl_n, ykl_l]
        exact hu'
      · by_cases d2 : c < s.2.1
        · rw [if_pos (Or.inr (Or.inl d2))] at hC
          rw [hC] at hu' ⊢
          simp only [s_199_0, s_199_1, s_199_2, s_199_3, s_199_4, s_199_5, s_199_6, s_199_7, s_199_8, s_199_9, s_199_10, s_199_11, s_199_12, s_199_13, s_199_14, s_199_15, s_199_16, s_199_17, s_199_18, s_199_19, s_199_20, s_199_21, s_199_22, s_199_23, s_199_24, s_199_25, s_199_26, s_199_27, s_199_28, s_199_29, s_199_30, s_199_31, s_199_32, s_199_33, s_199_34, s_199_35, s_199_36, s_199_37, s_199_38, s_199_39, s_199_40, s_199_41, s_199_42, s_199_43, s_199_44, s_199_45, s_199_46, s_199_47, s_199_48, s_199_49, s_199_50, s_199_51, s_199_52, s_199_53, s_199_55, s_199_56, s_199_57, s_199_58, s_199_59, s_199_60, s_199_61, s_199_62, s_199_63, s_199_64, s_199_66, s_199_67, s_199_68, s_199_69, s_199_70, s_199_71, s_199_72, s_199_73, s_199_74, s_199_75, s_199_76, s_199_77, s_199_78, s_199_79, s_199_80, s_199_81, s_199_82, s_199_83, s_199_84, s_199_85, s_199_86, s_199_87, s_199_88, s_199_89, s_199_90, s_199_91, s_199_92, s_199_93, s_199_94, s_199_96, s_199_97, s_199_98, s_199_99, s_199_100, s_199_101, s_199_102, s_199_103, s_199_104, s_199_105, s_199_106, s_199_107, s_199_108, s_199_109, s_199_110, s_199_111, s_199_112, s_199_113, s_199_114, s_199_115, s_199_116, s_199_117, s_199_118, s_199_119, s_199_120, s_199_121, s_199_122, s_199_123, s_199_124, s_199_125, s_199_126, s_199_127, s_199_128, s_199_129, s_199_130, s_199_131, s_199_132, s_199_133, s_199_134, s_199_135, s_199_136, s_199_137, yO_160, yA_162, yA_165, c1', d1, d2, if_true, if_false, hu2, g173, q127, ne_eq, not_false_eq_true, h4, Gk_v, Gk_n, xcat_nil, xcat_i, xcat_r, xcat_l, xcat_d, Nat.zero_le, Nat.reduceAdd, Nat.reduceLeDiff, true_and, and_true, ykl_i, ykl_r, ykl_n, ykl_l]
          exact hu'
        · by_cases d3 : c = s.2.1
          · by_cases d4 : yI sz < s.2.2
            · rw [if_pos (Or.inr (Or.inr ⟨d3, Or.inl d4⟩))] at hC
              rw [hC] at hu' ⊢
              rw [d3] at hu' g173
              have hirr : ¬ s.2.1 < s.2.1 := Int32.lt_irrefl
              rw [d3]
              simp only [s_199_0, s_199_1, s_199_2, s_199_3, s_199_4, s_199_5, s_199_6, s_199_7, s_199_8, s_199_9, s_199_10, s_199_11, s_199_12, s_199_13, s_199_14, s_199_15, s_199_16, s_199_17, s_199_18, s_199_19, s_199_20, s_199_21, s_199_22, s_199_23, s_199_24, s_199_25, s_199_26, s_199_27, s_199_28, s_199_29, s_199_30, s_199_31, s_199_32, s_199_33, s_199_34, s_199_35, s_199_36, s_199_37, s_199_38, s_199_39, s_199_40, s_199_41, s_199_42, s_199_43, s_199_44, s_199_45, s_199_46, s_199_47, s_199_48, s_199_49, s_199_50, s_199_51, s_199_52, s_199_53, s_199_55, s_199_56, s_199_57, s_199_58, s_199_59, s_199_60, s_199_61, s_199_62, s_199_63, s_199_64, s_199_66, s_199_67, s_199_68, s_199_69, s_199_70, s_199_71, s_199_72, s_199_73, s_199_74, s_199_75, s_199_76, s_199_77, s_199_78, s_199_79, s_199_80, s_199_81, s_199_82, s_199_83, s_199_84, s_199_85, s_199_86, s_199_87, s_199_88, s_199_89, s_199_90, s_199_91, s_199_92, s_199_93, s_199_94, s_199_96, s_199_97, s_199_98, s_199_99, s_199_100, s_199_101, s_199_102, s_199_103, s_199_104, s_199_105, s_199_106, s_199_107, s_199_108, s_199_109, s_199_110, s_199_111, s_199_112, s_199_113, s_199_114, s_199_115, s_199_116, s_199_117, s_199_118, s_199_119, s_199_120, s_199_121, s_199_122, s_199_123, s_199_124, s_199_125, s_199_126, s_199_127, s_199_128, s_199_129, s_199_130, s_199_131, s_199_132, s_199_133, s_199_134, s_199_135, s_199_136, s_199_137, yO_160, yA_162, yA_165, c1', d1, hirr, d4, if_true, if_false, hu2, g173, q127, ne_eq, not_true_eq_false, not_false_eq_true, h4, Gk_v, Gk_n, xcat_nil, xcat_i, xcat_r, xcat_l, xcat_d, Nat.zero_le, Nat.reduceAdd, Nat.reduceLeDiff, true_and, and_true, ykl_i, ykl_r, ykl_n, ykl_l]
              exact hu'
            · by_cases d5 : yI sz = s.2.2
              · by_cases d6 : s.1 ≤ Int64.ofNat (ypd 40 (ybadset D) i)
                · rw [if_neg (fun h => h.elim d1 (fun h => h.elim d2 (fun h => h.2.elim d4 (fun h => h.2 d6))))] at hC
                  rw [hC] at hu' ⊢
                  rw [d3] at hu' g173
                  rw [d5] at c1'
                  have hirr : ¬ s.2.1 < s.2.1 := Int32.lt_irrefl
                  have hirr2 : ¬ s.2.2 < s.2.2 := Int32.lt_irrefl
                  simp only [s_199_0, s_199_1, s_199_2, s_199_3, s_199_4, s_199_5, s_199_6, s_199_7, s_199_8, s_199_9, s_199_10, s_199_11, s_199_12, s_199_13, s_199_14, s_199_15, s_199_16, s_199_17, s_199_18, s_199_19, s_199_20, s_199_21, s_199_22, s_199_23, s_199_24, s_199_25, s_199_26, s_199_27, s_199_28, s_199_29, s_199_30, s_199_31, s_199_32, s_199_33, s_199_34, s_199_35, s_199_36, s_199_37, s_199_38, s_199_39, s_199_40, s_199_41, s_199_42, s_199_43, s_199_44, s_199_45, s_199_46, s_199_47, s_199_48, s_199_49, s_199_50, s_199_51, s_199_52, s_199_53, s_199_55, s_199_56, s_199_57, s_199_58, s_199_59, s_199_60, s_199_61, s_199_62, s_199_63, s_199_64, s_199_66, s_199_67, s_199_68, s_199_69, s_199_70, s_199_71, s_199_72, s_199_73, s_199_74, s_199_75, s_199_76, s_199_77, s_199_78, s_199_79, s_199_80, s_199_81, s_199_82, s_199_83, s_199_84, s_199_85, s_199_86, s_199_87, s_199_88, s_199_89, s_199_90, s_199_91, s_199_92, s_199_93, s_199_94, s_199_96, s_199_97, s_199_98, s_199_99, s_199_100, s_199_101, s_199_102, s_199_103, s_199_104, s_199_105, s_199_106, s_199_107, s_199_108, s_199_109, s_199_110, s_199_111, s_199_112, s_199_113, s_199_114, s_199_115, s_199_116, s_199_117, s_199_118, s_199_119, s_199_120, s_199_121, s_199_122, s_199_123, s_199_124, s_199_125, s_199_126, s_199_127, s_199_128, s_199_129, s_199_130, s_199_131, s_199_132, s_199_133, s_199_134, s_199_135, s_199_136, s_199_137, yO_160, yA_162, yA_165, c1', d1, hirr, hirr2, d5, lg_cmp_ge, d6, if_true, if_false, hu2, g173, q127, ne_eq, not_true_eq_false, not_false_eq_true, h4, Gk_v, Gk_n, xcat_nil, xcat_i, xcat_r, xcat_l, xcat_d, Nat.zero_le, Nat.reduceAdd, Nat.reduceLeDiff, true_and, and_true, ykl_i, ykl_r, ykl_n, ykl_l]
                  rw [d5] at hu'
                  exact hu'
                · rw [if_pos (Or.inr (Or.inr ⟨d3, Or.inr ⟨d5, d6⟩⟩))] at hC
                  rw [hC] at hu' ⊢
                  rw [d3] at hu' g173
                  rw [d5] at hu' c1'
                  have hirr : ¬ s.2.1 < s.2.1 := Int32.lt_irrefl
                  have hirr2 : ¬ s.2.2 < s.2.2 := Int32.lt_irrefl
                  rw [d3]
                  simp only [s_199_0, s_199_1, s_199_2, s_199_3, s_199_4, s_199_5, s_199_6, s_199_7, s_199_8, s_199_9, s_199_10, s_199_11, s_199_12, s_199_13, s_199_14, s_199_15, s_199_16, s_199_17, s_199_18, s_199_19, s_199_20, s_199_21, s_199_22, s_199_23, s_199_24, s_199_25, s_199_26, s_199_27, s_199_28, s_199_29, s_199_30, s_199_31, s_199_32, s_199_33, s_199_34, s_199_35, s_199_36, s_199_37, s_199_38, s_199_39, s_199_40, s_199_41, s_199_42, s_199_43, s_199_44, s_199_45, s_199_46, s_199_47, s_199_48, s_199_49, s_199_50, s_199_51, s_199_52, s_199_53, s_199_55, s_199_56, s_199_57, s_199_58, s_199_59, s_199_60, s_199_61, s_199_62, s_199_63, s_199_64, s_199_66, s_199_67, s_199_68, s_199_69, s_199_70, s_199_71, s_199_72, s_199_73, s_199_74, s_199_75, s_199_76, s_199_77, s_199_78, s_199_79, s_199_80, s_199_81, s_199_82, s_199_83, s_199_84, s_199_85, s_199_86, s_199_87, s_199_88, s_199_89, s_199_90, s_199_91, s_199_92, s_199_93, s_199_94, s_199_96, s_199_97, s_199_98, s_199_99, s_199_100, s_199_101, s_199_102, s_199_103, s_199_104, s_199_105, s_199_106, s_199_107, s_199_108, s_199_109, s_199_110, s_199_111, s_199_112, s_199_113, s_199_114, s_199_115, s_199_116, s_199_117, s_199_118, s_199_119, s_199_120, s_199_121, s_199_122, s_199_123, s_199_124, s_199_125, s_199_126, s_199_127, s_199_128, s_199_129, s_199_130, s_199_131, s_199_132, s_199_133, s_199_134, s_199_135, s_199_136, s_199_137, yO_160, yA_162, yA_165, c1', d1, hirr, hirr2, d5, lg_cmp_ge, d6, if_true, if_false, hu2, g173, q127, ne_eq, not_true_eq_false, not_false_eq_true, h4, Gk_v, Gk_n, xcat_nil, xcat_i, xcat_r, xcat_l, xcat_d, Nat.zero_le, Nat.reduceAdd, Nat.reduceLeDiff, true_and, and_true, ykl_i, ykl_r, ykl_n, ykl_l]
                  exact hu'
              · rw [if_neg (fun h => h.elim d1 (fun h => h.elim d2 (fun h => h.2.elim d4 (fun h => d5 h.1))))] at hC
                rw [hC] at hu' ⊢
                rw [d3] at hu' g173
                have hirr : ¬ s.2.1 < s.2.1 := Int32.lt_irrefl
                simp only [s_199_0, s_199_1, s_199_2, s_199_3, s_199_4, s_199_5, s_199_6, s_199_7, s_199_8, s_199_9, s_199_10, s_199_11, s_199_12, s_199_13, s_199_14, s_199_15, s_199_16, s_199_17, s_199_18, s_199_19, s_199_20, s_199_21, s_199_22, s_199_23, s_199_24, s_199_25, s_199_26, s_199_27, s_199_28, s_199_29, s_199_30, s_199_31, s_199_32, s_199_33, s_199_34, s_199_35, s_199_36, s_199_37, s_199_38, s_199_39, s_199_40, s_199_41, s_199_42, s_199_43, s_199_44, s_199_45, s_199_46, s_199_47, s_199_48, s_199_49, s_199_50, s_199_51, s_199_52, s_199_53, s_199_55, s_199_56, s_199_57, s_199_58, s_199_59, s_199_60, s_199_61, s_199_62, s_199_63, s_199_64, s_199_66, s_199_67, s_199_68, s_199_69, s_199_70, s_199_71, s_199_72, s_199_73, s_199_74, s_199_75, s_199_76, s_199_77, s_199_78, s_199_79, s_199_80, s_199_81, s_199_82, s_199_83, s_199_84, s_199_85, s_199_86, s_199_87, s_199_88, s_199_89, s_199_90, s_199_91, s_199_92, s_199_93, s_199_94, s_199_96, s_199_97, s_199_98, s_199_99, s_199_100, s_199_101, s_199_102, s_199_103, s_199_104, s_199_105, s_199_106, s_199_107, s_199_108, s_199_109, s_199_110, s_199_111, s_199_112, s_199_113, s_199_114, s_199_115, s_199_116, s_199_117, s_199_118, s_199_119, s_199_120, s_199_121, s_199_122, s_199_123, s_199_124, s_199_125, s_199_126, s_199_127, s_199_128, s_199_129, s_199_130, s_199_131, s_199_132, s_199_133, s_199_134, s_199_135, s_199_136, s_199_137, yO_160, yA_162, yA_165, c1', d1, hirr, d4, d5, if_true, if_false, hu2, g173, q127, ne_eq, not_true_eq_false, not_false_eq_true, h4, Gk_v, Gk_n, xcat_nil, xcat_i, xcat_r, xcat_l, xcat_d, Nat.zero_le, Nat.reduceAdd, Nat.reduceLeDiff, true_and, and_true, ykl_i, ykl_r, ykl_n, ykl_l]
                exact hu'
          · rw [if_neg (fun h => h.elim d1 (fun h => h.elim d2 (fun h => d3 h.1)))] at hC
            rw [hC] at hu' ⊢
            simp only [s_199_0, s_199_1, s_199_2, s_199_3, s_199_4, s_199_5, s_199_6, s_199_7, s_199_8, s_199_9, s_199_10, s_199_11, s_199_12, s_199_13, s_199_14, s_199_15, s_199_16, s_199_17, s_199_18, s_199_19, s_199_20, s_199_21, s_199_22, s_199_23, s_199_24, s_199_25, s_199_26, s_199_27, s_199_28, s_199_29, s_199_30, s_199_31, s_199_32, s_199_33, s_199_34, s_199_35, s_199_36, s_199_37, s_199_38, s_199_39, s_199_40, s_199_41, s_199_42, s_199_43, s_199_44, s_199_45, s_199_46, s_199_47, s_199_48, s_199_49, s_199_50, s_199_51, s_199_52, s_199_53, s_199_55, s_199_56, s_199_57, s_199_58, s_199_59, s_199_60, s_199_61, s_199_62, s_199_63, s_199_64, s_199_66, s_199_67, s_199_68, s_199_69, s_199_70, s_199_71, s_199_72, s_199_73, s_199_74, s_199_75, s_199_76, s_199_77, s_199_78, s_199_79, s_199_80, s_199_81, s_199_82, s_199_83, s_199_84, s_199_85, s_199_86, s_199_87, s_199_88, s_199_89, s_199_90, s_199_91, s_199_92, s_199_93, s_199_94, s_199_96, s_199_97, s_199_98, s_199_99, s_199_100, s_199_101, s_199_102, s_199_103, s_199_104, s_199_105, s_199_106, s_199_107, s_199_108, s_199_109, s_199_110, s_199_111, s_199_112, s_199_113, s_199_114, s_199_115, s_199_116, s_199_117, s_199_118, s_199_119, s_199_120, s_199_121, s_199_122, s_199_123, s_199_124, s_199_125, s_199_126, s_199_127, s_199_128, s_199_129, s_199_130, s_199_131, s_199_132, s_199_133, s_199_134, s_199_135, s_199_136, s_199_137, yO_160, yA_162, yA_165, c1', d1, d2, d3, if_true, if_false, hu2, g173, q127, ne_eq, not_false_eq_true, h4, Gk_v, Gk_n, xcat_nil, xcat_i, xcat_r, xcat_l, xcat_d, Nat.zero_le, Nat.reduceAdd, Nat.reduceLeDiff, true_and, and_true, ykl_i, ykl_r, ykl_n, ykl_l]
            exact hu'
    · have c1' : mx < yI sz := Int32.not_le.mp c1
      rw [if_neg c1] at hC
      obtain ⟨Mb, b5, bl, Fb⟩ := back u1 _ (fun a => a = 162) F1 (fun a h => Or.inl h) M2 rfl rfl
      obtain ⟨u, hu, Mu, Fu⟩ := ih (i + 1) _ (ysM (ydue D) (ybadset D) mx i s) (some (.int (yI sz))) (some (.long (Int64.ofNat (ypd 40 (ybadset D) i)))) none (some (.int (yI M))) Mb b5 bl (by omega)
      refine ⟨u, fun Q => ?_, Mu, Fb.trans Fu (fun a h => by omega)⟩
      have hu' := hu Q
      have hu1' := hu1 Q
      rw [hC] at hu' ⊢
      rw [s_199_54]
      simp only [s_199_0, s_199_1, s_199_2, s_199_3, s_199_4, s_199_5, s_199_6, s_199_7, s_199_8, s_199_9, s_199_10, s_199_11, s_199_12, s_199_13, s_199_14, s_199_15, s_199_16, s_199_17, s_199_18, s_199_19, s_199_20, s_199_21, s_199_22, s_199_23, s_199_24, s_199_25, s_199_26, s_199_27, s_199_28, s_199_29, s_199_30, s_199_31, s_199_32, s_199_33, s_199_34, s_199_35, s_199_36, s_199_37, s_199_38, s_199_39, s_199_40, s_199_41, s_199_42, s_199_43, s_199_44, s_199_45, s_199_46, s_199_47, s_199_48, s_199_49, s_199_50, s_199_51, s_199_52, s_199_53, s_199_55, s_199_56, s_199_57, s_199_58, s_199_59, s_199_60, s_199_61, s_199_62, s_199_63, s_199_64, s_199_66, s_199_67, s_199_68, s_199_69, s_199_70, s_199_71, s_199_72, s_199_73, s_199_74, s_199_75, s_199_76, s_199_77, s_199_78, s_199_79, s_199_80, s_199_81, s_199_82, s_199_83, s_199_84, s_199_85, s_199_86, s_199_87, s_199_88, s_199_89, s_199_90, s_199_91, s_199_92, s_199_93, s_199_94, s_199_96, s_199_97, s_199_98, s_199_99, s_199_100, s_199_101, s_199_102, s_199_103, s_199_104, s_199_105, s_199_106, s_199_107, s_199_108, s_199_109, s_199_110, s_199_111, s_199_112, s_199_113, s_199_114, s_199_115, s_199_116, s_199_117, s_199_118, s_199_119, s_199_120, s_199_121, s_199_122, s_199_123, s_199_124, s_199_125, s_199_126, s_199_127, s_199_128, s_199_129, s_199_130, s_199_131, s_199_132, s_199_133, s_199_134, s_199_135, s_199_136, s_199_137, eM, h1, if_false, Gk_v, Gk_n, xcat_nil, xcat_i, xcat_r, xcat_l, xcat_d, Nat.zero_le, Nat.reduceAdd, Nat.reduceLeDiff, true_and, and_true, ykl_i, ykl_r, ykl_n, ykl_l]
      rw [show (0 : Int32) = yI 0 from rfl]
      refine Iff.trans hu1' ?_
      rw [s_199_95]
      simp only [s_199_0, s_199_1, s_199_2, s_199_3, s_199_4, s_199_5, s_199_6, s_199_7, s_199_8, s_199_9, s_199_10, s_199_11, s_199_12, s_199_13, s_199_14, s_199_15, s_199_16, s_199_17, s_199_18, s_199_19, s_199_20, s_199_21, s_199_22, s_199_23, s_199_24, s_199_25, s_199_26, s_199_27, s_199_28, s_199_29, s_199_30, s_199_31, s_199_32, s_199_33, s_199_34, s_199_35, s_199_36, s_199_37, s_199_38, s_199_39, s_199_40, s_199_41, s_199_42, s_199_43, s_199_44, s_199_45, s_199_46, s_199_47, s_199_48, s_199_49, s_199_50, s_199_51, s_199_52, s_199_53, s_199_55, s_199_56, s_199_57, s_199_58, s_199_59, s_199_60, s_199_61, s_199_62, s_199_63, s_199_64, s_199_66, s_199_67, s_199_68, s_199_69, s_199_70, s_199_71, s_199_72, s_199_73, s_199_74, s_199_75, s_199_76, s_199_77, s_199_78, s_199_79, s_199_80, s_199_81, s_199_82, s_199_83, s_199_84, s_199_85, s_199_86, s_199_87, s_199_88, s_199_89, s_199_90, s_199_91, s_199_92, s_199_93, s_199_94, s_199_96, s_199_97, s_199_98, s_199_99, s_199_100, s_199_101, s_199_102, s_199_103, s_199_104, s_199_105, s_199_106, s_199_107, s_199_108, s_199_109, s_199_110, s_199_111, s_199_112, s_199_113, s_199_114, s_199_115, s_199_116, s_199_117, s_199_118, s_199_119, s_199_120, s_199_121, s_199_122, s_199_123, s_199_124, s_199_125, s_199_126, s_199_127, s_199_128, s_199_129, s_199_130, s_199_131, s_199_132, s_199_133, s_199_134, s_199_135, s_199_136, s_199_137, yO_160, yA_162, yA_165, c1', if_true, q127, h4, Gk_v, Gk_n, xcat_nil, xcat_i, xcat_r, xcat_l, xcat_d, Nat.zero_le, Nat.reduceAdd, Nat.reduceLeDiff, true_and, and_true, ykl_i, ykl_r, ykl_n, ykl_l]
      exact hu'
end

/-! ===== plan ===== -/
section
variable {d : Nat} {t : yT} {D : yD} {k : Nat} {E : Nat → yD} {s0 s1 : Option yD} {n : Nat} {B : Nat → Nat} {eo en : Int32}
theorem p_199 (M : yMI t D k E s0 s1 n B eo en) {b : Nat} (hb : b ≤ 10) : ∃ u, Ra (d + 5) 199 [.ref 160, .int (yI b)] (yemb t) (.inl (some (.long (yplan (ydue D) (ybadset D) (yI b))))) (yemb u) ∧ (yMI u D k E s0 s1 n B eo en ∧ (u.A 160 0 = 0 ∧ yFm t u)) := by
  have hD := M.1.ok
  have hn40 := hD.n40
  have M0 := yMI_s1 (j := 0) (v := 0) M (by decide)
  have c1 : (decide ((0 : Int32) ≤ yI b ∧ yI b ≤ 10)) = true := decide_eq_true ⟨(yI_le (n := 0) (by decide) (by omega)).mpr (by omega), (yI_le (m := 10) (by omega) (by decide)).mpr (by omega)⟩
  have n162 : (340 : Nat) ≤ yn 162 := by rw [yn_162]; omega
  have n165 : (340 : Nat) ≤ yn 165 := by rw [yn_165]; omega
  have c340 : yI 340 = 340 := rfl
  have h10 : ycn (yisbad D) D.n ≤ 10 := by
    rw [← ybadset_pc hD]
    exact ybadset_10 hD
  have hw40 : ybadset D < 2 ^ 40 := Nat.lt_of_lt_of_le (ybadset_lt hD) (Nat.pow_le_pow_right (by decide) hn40)
  obtain ⟨u1, h1, L1, F1⟩ := l_199a (d := d) h10 (mx := yI b) (f := -1) (l := 0) (b := 0) (l8 := none) (l9 := none) (l10 := none) (l11 := none) D.n 0 (t.s1 160 0 0) M0.1 (Nat.zero_add _) (fun q hq => absurd hq (Nat.not_lt_zero _))
  have M1 : yM (u1.A 162) D := yM_ne M0.1 F1 (by decide)
  have q127 := fun (Q' : xR → xS → Prop) => m_127 (d := d + 4) (n := 340) yA_162 yA_165 (by decide) n162 n165 (by decide) u1 Q'
  rw [c340] at q127
  have F2 : yFr (fun a => a = 165) u1 (u1.sA 165 (fun j => if j < 340 then u1.A 162 j else u1.A 165 j)) := yFr_sA rfl
  have M2 : yM ((u1.sA 165 (fun j => if j < 340 then u1.A 162 j else u1.A 165 j)).A 162) D := yM_ne M1 F2 (by decide)
  have hbad : ∀ q, q < ycn (yisbad D) D.n → u1.A 182 q = yI (u1.A 182 q).toNatClampNeg ∧ ((u1.A 182 q).toNatClampNeg < D.n ∧ (yisbad D (u1.A 182 q).toNatClampNeg = true ∧ ycn (yisbad D) (u1.A 182 q).toNatClampNeg = q)) := by
    intro q hq
    obtain ⟨c, g1, g2, g3, g4⟩ := L1 q hq
    rw [g2, yI_clamp (by omega)]
    exact ⟨rfl, g1, g3, g4⟩
  obtain ⟨u, hu, Mu, Fu⟩ := l_199 (d := d) hD M1.v rfl h10 (bad := fun q => (u1.A 182 q).toNatClampNeg) (fun q hq => (hbad q hq).2) (mx := yI b) (2 ^ ycn (yisbad D) D.n) 0 _ (0, (-1, 0)) none none none none M2
    (fun j hj => by
      rw [ysA_same]
      simp only [hj, if_true])
    (fun q hq => by
      rw [F2.A (by decide)]
      exact (hbad q hq).1)
    (Nat.zero_add _)
  have hpl := yplan_M (Y := ydue D) (by rw [ydue_eq, ysdu_n]; exact hn40) hw40 hb
  rw [ybadset_pc hD] at hpl
  rw [hpl] at hu
  have Ft : yFr (fun a => a = 162 ∨ a = 165 ∨ a = 180 ∨ a = 182) (t.s1 160 0 0) u := (F1.trans F2 (P'' := fun a => a = 162 ∨ a = 165 ∨ a = 180 ∨ a = 182) (fun a h => by omega)).trans Fu (fun a h => by omega)
  refine ⟨u, fun Q => ?_, yMI_D M0 Ft (fun a h => by omega) Mu, by rw [Ft.A (by omega)]; exact ys1_same, yFm_trans yFm_s1 (yFm_fr Ft (fun a h => by omega))⟩
  show G (d + 5) 199 0 [some (.ref 160), some (.int (yI b)), none, none, none, none, none, none, none, none, none, none] [] (yemb t) Q ↔ _
  have h1' := h1 Q
  have hu' := hu Q
  have z0 : ycn (yisbad D) 0 = 0 := rfl
  rw [z0] at h1'
  simp only [s_199_0, s_199_1, s_199_2, s_199_3, s_199_4, s_199_5, s_199_6, s_199_7, s_199_8, s_199_9, s_199_10, s_199_11, s_199_12, s_199_13, s_199_14, s_199_15, s_199_16, s_199_17, s_199_18, s_199_19, s_199_20, s_199_21, s_199_22, s_199_23, s_199_24, s_199_25, s_199_26, s_199_28, s_199_29, s_199_30, s_199_31, s_199_32, s_199_33, s_199_34, s_199_35, s_199_36, s_199_37, s_199_38, s_199_39, s_199_40, s_199_41, s_199_42, s_199_43, s_199_44, s_199_45, s_199_47, s_199_48, s_199_49, s_199_50, s_199_51, s_199_52, s_199_53, s_199_55, s_199_56, s_199_57, s_199_58, s_199_59, s_199_60, s_199_61, s_199_62, s_199_63, s_199_64, s_199_65, s_199_66, s_199_67, s_199_68, s_199_69, s_199_70, s_199_71, s_199_72, s_199_73, s_199_74, s_199_75, s_199_76, s_199_77, s_199_78, s_199_79, s_199_80, s_199_81, s_199_82, s_199_83, s_199_84, s_199_85, s_199_86, s_199_87, s_199_88, s_199_89, s_199_90, s_199_91, s_199_92, s_199_93, s_199_94, s_199_95, s_199_96, s_199_97, s_199_98, s_199_99, s_199_100, s_199_101, s_199_102, s_199_103, s_199_104, s_199_105, s_199_106, s_199_107, s_199_108, s_199_109, s_199_110, s_199_111, s_199_112, s_199_113, s_199_114, s_199_115, s_199_116, s_199_117, s_199_118, s_199_119, s_199_120, s_199_121, s_199_122, s_199_123, s_199_124, s_199_125, s_199_126, s_199_127, s_199_128, s_199_129, s_199_130, s_199_131, s_199_132, s_199_133, s_199_134, s_199_135, s_199_136, s_199_137, yO_160, m_125, c1, ifbn, if_true, m_124f yne10 ys1_same, Gk_v, Gk_n, xcat_nil, xcat_i, xcat_r, xcat_l, xcat_d, Nat.zero_le, Nat.reduceAdd, Nat.reduceLeDiff, true_and, and_true, ykl_i, ykl_r, ykl_n, ykl_l]
  refine Iff.trans h1' ?_
  rw [s_199_46]
  simp only [s_199_0, s_199_1, s_199_2, s_199_3, s_199_4, s_199_5, s_199_6, s_199_7, s_199_8, s_199_9, s_199_10, s_199_11, s_199_12, s_199_13, s_199_14, s_199_15, s_199_16, s_199_17, s_199_18, s_199_19, s_199_20, s_199_21, s_199_22, s_199_23, s_199_24, s_199_25, s_199_26, s_199_28, s_199_29, s_199_30, s_199_31, s_199_32, s_199_33, s_199_34, s_199_35, s_199_36, s_199_37, s_199_38, s_199_39, s_199_40, s_199_41, s_199_42, s_199_43, s_199_44, s_199_45, s_199_47, s_199_48, s_199_49, s_199_50, s_199_51, s_199_52, s_199_53, s_199_55, s_199_56, s_199_57, s_199_58, s_199_59, s_199_60, s_199_61, s_199_62, s_199_63, s_199_64, s_199_65, s_199_66, s_199_67, s_199_68, s_199_69, s_199_70, s_199_71, s_199_72, s_199_73, s_199_74, s_199_75, s_199_76, s_199_77, s_199_78, s_199_79, s_199_80, s_199_81, s_199_82, s_199_83, s_199_84, s_199_85, s_199_86, s_199_87, s_199_88, s_199_89, s_199_90, s_199_91, s_199_92, s_199_93, s_199_94, s_199_95, s_199_96, s_199_97, s_199_98, s_199_99, s_199_100, s_199_101, s_199_102, s_199_103, s_199_104, s_199_105, s_199_106, s_199_107, s_199_108, s_199_109, s_199_110, s_199_111, s_199_112, s_199_113, s_199_114, s_199_115, s_199_116, s_199_117, s_199_118, s_199_119, s_199_120, s_199_121, s_199_122, s_199_123, s_199_124, s_199_125, s_199_126, s_199_127, s_199_128, s_199_129, s_199_130, s_199_131, s_199_132, s_199_133, s_199_134, s_199_135, s_199_136, s_199_137, yO_160, yA_162, yA_165, q127, Gk_v, Gk_n, xcat_nil, xcat_i, xcat_r, xcat_l, xcat_d, Nat.zero_le, Nat.reduceAdd, Nat.reduceLeDiff, true_and, and_true, ykl_i, ykl_r, ykl_n, ykl_l]
  exact hu'
theorem p_199t (M : yMI t D k E s0 s1 n B eo en) {b : Int32} (hb : decide (0 ≤ b ∧ b ≤ 10) = false) : ∃ u, Ra (d + 5) 199 [.ref 160, .int b] (yemb t) (.inl (some (.long 0))) (yemb u) ∧ (yMI u D k E s0 s1 n B eo en ∧ (u.A 160 0 = 1 ∧ yFm t u)) := by
  refine ⟨(t.s1 160 0 0).s1 160 0 1, fun Q => ?_, yMI_s1 (yMI_s1 M (by decide)) (by decide), ys1_same, yFm_trans yFm_s1 yFm_s1⟩
  show G (d + 5) 199 0 [some (.ref 160), some (.int b), none, none, none, none, none, none, none, none, none, none] [] (yemb t) Q ↔ _
  simp only [s_199_0, s_199_1, s_199_2, s_199_3, s_199_4, s_199_5, s_199_6, s_199_7, s_199_8, s_199_9, s_199_10, s_199_11, s_199_12, s_199_13, s_199_14, s_199_15, s_199_16, s_199_17, s_199_18, s_199_19, s_199_20, s_199_21, s_199_22, s_199_23, s_199_24, s_199_25, s_199_26, s_199_28, s_199_29, s_199_30, s_199_31, s_199_32, s_199_33, s_199_34, s_199_35, s_199_36, s_199_37, s_199_38, s_199_39, s_199_40, s_199_41, s_199_42, s_199_43, s_199_44, s_199_45, s_199_46, s_199_47, s_199_48, s_199_49, s_199_50, s_199_51, s_199_52, s_199_53, s_199_55, s_199_56, s_199_57, s_199_58, s_199_59, s_199_60, s_199_61, s_199_62, s_199_63, s_199_64, s_199_65, s_199_66, s_199_67, s_199_68, s_199_69, s_199_70, s_199_71, s_199_72, s_199_73, s_199_74, s_199_75, s_199_76, s_199_77, s_199_78, s_199_79, s_199_80, s_199_81, s_199_82, s_199_83, s_199_84, s_199_85, s_199_86, s_199_87, s_199_88, s_199_89, s_199_90, s_199_91, s_199_92, s_199_93, s_199_94, s_199_95, s_199_96, s_199_97, s_199_98, s_199_99, s_199_100, s_199_101, s_199_102, s_199_103, s_199_104, s_199_105, s_199_106, s_199_107, s_199_108, s_199_109, s_199_110, s_199_111, s_199_112, s_199_113, s_199_114, s_199_115, s_199_116, s_199_117, s_199_118, s_199_119, s_199_120, s_199_121, s_199_122, s_199_123, s_199_124, s_199_125, s_199_126, s_199_127, s_199_128, s_199_129, s_199_130, s_199_131, s_199_132, s_199_133, s_199_134, s_199_135, s_199_136, s_199_137, yO_160, m_125, hb, ifbn, Bool.false_eq_true, if_false, m_124t yne10 ys1_same, yne10, Gk_v, Gk_n, xcat_nil, xcat_i, xcat_r, xcat_l, xcat_d, Nat.zero_le, Nat.reduceAdd, Nat.reduceLeDiff, true_and, and_true, ykl_i, ykl_r, ykl_n, ykl_l]
theorem k_234 (I : yInv t) (hz : t.z.1.1 < 900000) (l : Int32) : ∃ u1 u c b, Ra (d + 6) 234 [.ref 0, .int l, .ref 183] (yemb t) (.inl (some (.int c))) (yemb u1) ∧ (Ra (d + 5) 199 [.ref 160, .int l] (yemb u1) (.inl (some (.long b))) (yemb u) ∧ yOK t u c b) := by
  obtain ⟨⟨D, k, E, s0, s1, n, B, eo, en, C, M⟩, Z⟩ := I
  cases hc : decide (0 ≤ l ∧ l ≤ 10)
  · obtain ⟨u, hu, M1, h0, Fm⟩ := p_199t (d := d) (yMI_c M yFc_bp) hc
    exact ⟨_, u, 1, 0, h_234_0 (q_105t hc hz), hu, yOK_of Z yFc_bp (yCI_bp C) Fm M1 h0 (fun h => absurd h yne10)⟩
  · have hc' := of_decide_eq_true hc
    obtain ⟨b, hb, rfl⟩ := yrange (x := l) (m := 10) (by decide) hc'
    obtain ⟨u1, h1, C1, F1⟩ := q_105 (d := d) C hb
    have Fc := yFc_out (j := 0) (v := yplan (ydue D) (ybadset D) (yI b)) (yFc_fr F1 (fun a h => Or.inl h))
    obtain ⟨u, hu, M1, h0, Fm⟩ := p_199 (d := d) (yMI_c M Fc) hb
    exact ⟨_, u, 0, _, h_234 h1, hu, yOK_of Z Fc (yCI_out C1) Fm M1 h0 (fun _ => yoL)⟩
end

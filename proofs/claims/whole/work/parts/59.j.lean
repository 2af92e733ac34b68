/-! ===== append whole ===== -/
section
variable {d : Nat} {t : yT} {D : yD} {k : Nat} {E : Nat → yD} {s0 s1 : Option yD} {n : Nat} {B : Nat → Nat} {eo en : Int32}
theorem p_129 (M : yMI t D k E s0 s1 n B eo en) (hn : n + 20 ≤ 600) {a1 a2 a3 a4 a5 : Int32} : ∃ u, Ra d 129 [.ref 160, .int a1, .int a2, .int a3, .int a4, .int a5] (yemb t) (.inl (some (.int (yI (n + 20))))) (yemb u) ∧ (yMI u D k E s0 s1 (n + 20) (yapp a1 a2 a3 a4 a5 n B) eo en ∧ (u.A 160 0 = 0 ∧ yFm t u)) := by
  obtain ⟨C1, C2, ⟨⟨b1, b2⟩, b3, b4⟩, ⟨c1, c2, c3⟩, e1, e2⟩ := yMI_s1 (j := 0) (v := 0) M (by decide)
  obtain ⟨u, hu, x1, x2, x3, x4, F⟩ := l_129 (d := d) (a1 := a1) (a2 := a2) (a3 := a3) (a4 := a4) (a5 := a5) hn 20 0 (t.s1 160 0 0) none (Nat.zero_add _) c2
  have h2 : yI n + 20 = yI (n + 20) := yI_add
  have h3 : yI (n + 20) ≤ 600 := (yI_le (m := 600) (by omega) (by decide)).mpr hn
  have nA : ∀ a, a ≠ 160 → a ≠ 161 → u.A a = (t.s1 160 0 0).A a := fun a g1 g2 => F.A (by omega)
  refine ⟨u, fun Q => ?_, ⟨yM_ne C1 F (by decide), yH2_fr C2 (x2 16 (by decide)) (fun a g1 g2 => nA a (by omega) (by omega)), ⟨⟨by rw [nA 178 (by decide) (by decide)]; exact b1, by rw [nA 178 (by decide) (by decide)]; exact b2⟩, fun X hX => by rw [nA 176 (by decide) (by decide)]; exact b3 X hX, fun X hX => by rw [nA 177 (by decide) (by decide)]; exact b4 X hX⟩, ⟨hn, x1, fun i hi => ?_⟩, by rw [x2 7 (by decide)]; exact e1, by rw [x2 8 (by decide)]; exact e2⟩, by rw [x2 0 (by decide)]; exact ys1_same, yFm_trans yFm_s1 (yFm_fr F (fun a h => by omega))⟩
  · have hu' := hu Q
    show G d 129 0 [some (.ref 160), some (.int a1), some (.int a2), some (.int a3), some (.int a4), some (.int a5), none, none] [] (yemb t) Q ↔ _
    simp only [s_129_0, s_129_1, s_129_2, s_129_3, s_129_4, s_129_5, s_129_6, s_129_7, s_129_8, s_129_9, s_129_10, s_129_11, s_129_12, s_129_14, s_129_15, s_129_16, s_129_17, s_129_18, s_129_19, s_129_20, s_129_21, s_129_22, s_129_23, s_129_24, s_129_25, s_129_26, s_129_27, s_129_28, s_129_29, s_129_30, s_129_31, s_129_32, s_129_33, s_129_34, s_129_35, s_129_36, s_129_37, s_129_38, s_129_39, s_129_40, s_129_41, s_129_42, s_129_43, s_129_44, s_129_45, s_129_46, s_129_47, s_129_48, s_129_49, s_129_50, s_129_51, s_129_52, s_129_53, s_129_54, s_129_55, s_129_55i, s_129_56, s_129_57, s_129_58, s_129_59, s_129_60, s_129_61, s_129_62, s_129_63, s_129_64, yO_160, c2, h2, h3, if_true, Gk_v, Gk_n, xcat_nil, xcat_i, xcat_r, xcat_l, xcat_d, Nat.zero_le, Nat.reduceAdd, Nat.reduceLeDiff, true_and, and_true, ykl_i, ykl_r, ykl_n, ykl_l]
    exact hu'
  · unfold yapp
    by_cases g0 : i < n
    · rw [if_pos g0, x3 i (by omega)]
      exact c3 i g0
    · rw [if_neg g0]
      obtain ⟨q, hq⟩ : ∃ q, i = n + q := ⟨i - n, by omega⟩
      subst hq
      rw [Nat.add_sub_cancel_left]
      exact ⟨(yb8_eq _ _).2, x4 q (Nat.zero_le _) (by omega)⟩
theorem k_94 (I : yInv t) (a1 a2 a3 a4 a5 : Int32) : ∃ u1 u v, Ra (d + 1) 94 [.ref 0, .int a1, .int a2, .int a3, .int a4, .int a5] (yemb t) (.inl (some (.int v))) (yemb u1) ∧ (Ra d 129 [.ref 160, .int a1, .int a2, .int a3, .int a4, .int a5] (yemb u1) (.inl (some (.int v))) (yemb u) ∧ yOK t u 0 (u1.L 183 0)) := by
  obtain ⟨⟨D, k, E, s0, s1, n, B, eo, en, C, M⟩, Z⟩ := I
  by_cases hn : n + 20 ≤ 600
  · obtain ⟨u1, h1, C1, F1⟩ := q_94 (d := d) C hn (a1 := a1) (a2 := a2) (a3 := a3) (a4 := a4) (a5 := a5)
    have Fc := yFc_fr F1 (fun a h => by omega)
    obtain ⟨u, hu, M1, h0, Fm⟩ := p_129 (d := d) (yMI_c M Fc) hn (a1 := a1) (a2 := a2) (a3 := a3) (a4 := a4) (a5 := a5)
    exact ⟨u1, u, _, h1, hu, yOK_of Z Fc C1 Fm M1 h0 (fun _ => rfl)⟩
  · have hn6 : n ≤ 600 := C.2.2.2.1.1
    have c2 : t.A 1 1 = yI n := C.2.2.2.1.2.1
    have h2 : yI n + 20 = yI (n + 20) := yI_add
    have h3 : ¬ yI (n + 20) ≤ 600 := fun h => hn ((yI_le (m := 600) (by omega) (by decide)).mp h)
    have M0 := yMI_s1 (j := 0) (v := 0) M (by decide)
    have c4 : (t.s1 160 0 0).A 160 2 = yI n := M0.2.2.2.1.2.1
    refine ⟨t, t.s1 160 0 0, -1, fun Q => ?_, fun Q => ?_, yOK_of Z yFc_rfl C yFm_s1 M0 ys1_same (fun _ => rfl)⟩
    · show G (d + 1) 94 0 [some (.ref 0), some (.int a1), some (.int a2), some (.int a3), some (.int a4), some (.int a5)] [] (yemb t) Q ↔ _
      simp only [s_94_0, s_94_1, s_94_2, s_94_3, s_94_4, s_94_5, s_94_6, s_94_7, s_94_8, s_94_9, s_94_10, s_94_11, s_94_12, s_94_13, s_94_14, s_94_15, s_94_16, s_94_17, s_94_18, s_94_19, s_94_20, s_94_21, s_94_22, s_94_23, s_94_24, s_94_25, s_94_26, s_94_27, s_94_28, s_94_29, s_94_30, s_94_31, s_94_32, yO_0, yO_1, fun t' => m_74 (d := d) (t := t'), c2, h2, h3, if_false, Gk_v, Gk_n, xcat_nil, xcat_i, xcat_r, xcat_l, xcat_d, Nat.zero_le, Nat.reduceAdd, Nat.reduceLeDiff, true_and, and_true, ykl_i, ykl_r, ykl_n, ykl_l]
    · show G d 129 0 [some (.ref 160), some (.int a1), some (.int a2), some (.int a3), some (.int a4), some (.int a5), none, none] [] (yemb t) Q ↔ _
      simp only [s_129_0, s_129_1, s_129_2, s_129_3, s_129_4, s_129_5, s_129_6, s_129_7, s_129_8, s_129_9, s_129_10, s_129_11, s_129_12, s_129_14, s_129_15, s_129_16, s_129_17, s_129_18, s_129_19, s_129_20, s_129_21, s_129_22, s_129_23, s_129_24, s_129_25, s_129_26, s_129_27, s_129_28, s_129_29, s_129_30, s_129_31, s_129_32, s_129_33, s_129_34, s_129_35, s_129_36, s_129_37, s_129_38, s_129_39, s_129_40, s_129_41, s_129_42, s_129_43, s_129_44, s_129_45, s_129_46, s_129_47, s_129_48, s_129_49, s_129_50, s_129_51, s_129_52, s_129_53, s_129_54, s_129_55, s_129_55i, s_129_56, s_129_57, s_129_58, s_129_59, s_129_60, s_129_61, s_129_62, s_129_63, s_129_64, yO_160, c4, h2, h3, if_false, Gk_v, Gk_n, xcat_nil, xcat_i, xcat_r, xcat_l, xcat_d, Nat.zero_le, Nat.reduceAdd, Nat.reduceLeDiff, true_and, and_true, ykl_i, ykl_r, ykl_n, ykl_l]
end

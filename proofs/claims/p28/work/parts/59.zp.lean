/-! ===== the class's setups: fill ===== -/
section
variable {d z0 s0 : Nat} {t u : yT} {n : Nat} {B : Nat → Nat} {q q' : Nat} {U : yU}
theorem l_27 {x1 x2 : Int32} : ∀ m i q c (t : yT) (l5 : Option Value), i + m = 3 → yCs z0 s0 t n B q U → c < 256 ^ i →
    (∀ e a, yrch n B m q c = .inl (e, a) → ∃ u, Ga (d + 3) 27 35 [some (.ref 31), some (.int x1), some (.int x2), some (.int (yI c)), some (.int (yI i)), l5] [] (yemb t) (.inl (some (.int 0))) (yemb u) ∧ (u.A 1 8 = e ∧ (u.A 1 9 = yI a ∧ (yKx t u ∧ yZz z0 s0 u))))
    ∧ (∀ q' c', yrch n B m q c = .inr (q', c') → ∃ (u : yT) (l5' : Option Value), Gg (d + 3) 27 35 [some (.ref 31), some (.int x1), some (.int x2), some (.int (yI c)), some (.int (yI i)), l5] [] (yemb t) 56 [some (.ref 31), some (.int x1), some (.int x2), some (.int (yI c')), some (.int (yI 3)), l5'] [] (yemb u) ∧ (yCs z0 s0 u n B q' U ∧ yKc t u)) := by
  intro m
  induction m with
  | zero =>
    intro i q c t l5 hi C hc
    obtain rfl : i = 3 := by omega
    refine ⟨fun e a h => (by cases h), fun q' c' h => ?_⟩
    cases h
    have c1 : (3 : Int32) ≤ yI 3 := by decide
    refine ⟨t, l5, fun Q => ?_, C, fun _ _ => rfl, yFg_rfl⟩
    rw [s_27_35]
    simp only [s_27_0, s_27_1, s_27_2, s_27_3, s_27_4, s_27_5, s_27_6, s_27_7, s_27_8, s_27_9, s_27_10, s_27_11, s_27_12, s_27_13, s_27_14, s_27_15, s_27_16, s_27_17, s_27_18, s_27_19, s_27_20, s_27_21, s_27_22, s_27_23, s_27_24, s_27_25, s_27_26, s_27_27, s_27_28, s_27_29, s_27_30, s_27_31, s_27_32, s_27_33, s_27_34, s_27_36, s_27_37, s_27_38, s_27_39, s_27_40, s_27_41, s_27_42, s_27_43, s_27_44, s_27_45, s_27_46, s_27_47, s_27_48, s_27_49, s_27_50, s_27_51, s_27_52, s_27_53, s_27_54, s_27_55, s_27_57, s_27_58, s_27_59, s_27_60, s_27_61, s_27_62, s_27_62i, s_27_63, s_27_64, c1, if_true, Gk_v, Gk_n, xcat_nil, xcat_i, xcat_r, xcat_l, xcat_d, Nat.zero_le, Nat.reduceAdd, Nat.reduceLeDiff, true_and, and_true, ykl_i, ykl_r, ykl_n, ykl_l]
  | succ m ih =>
    intro i q c t l5 hi C hc
    have c1 : ¬ (3 : Int32) ≤ yI i := fun h => absurd ((yI_le (n := 3) (by decide) (by omega)).mp h) (by omega)
    have h7 : yI i + 1 = yI (i + 1) := yI_add
    have cm1 : ¬ (0 : Int32) ≤ -1 := by decide
    rw [yrch]
    cases h1 : ynum n B q 0 255
    · rw [if_neg (by decide)]
      have g : ∀ Q', Cl (d + 2) 89 [.ref 1, .int 0, .int 255] (yemb t) Q' ↔ Q' _ _ := m_89f (d := d) C.1 (lo := 0) (hi := 255) (by decide) (by decide) h1
      refine ⟨fun e a h => ?_, fun q' c' h => by cases h⟩
      cases h
      refine ⟨_, fun Q => ?_, yCs_er C⟩
      rw [s_27_35]
      simp only [s_27_0, s_27_1, s_27_2, s_27_3, s_27_4, s_27_5, s_27_6, s_27_7, s_27_8, s_27_9, s_27_10, s_27_11, s_27_12, s_27_13, s_27_14, s_27_15, s_27_16, s_27_17, s_27_18, s_27_19, s_27_20, s_27_21, s_27_22, s_27_23, s_27_24, s_27_25, s_27_26, s_27_27, s_27_28, s_27_29, s_27_30, s_27_31, s_27_32, s_27_33, s_27_34, s_27_36, s_27_37, s_27_38, s_27_39, s_27_40, s_27_41, s_27_42, s_27_43, s_27_44, s_27_45, s_27_46, s_27_47, s_27_48, s_27_49, s_27_50, s_27_51, s_27_52, s_27_53, s_27_54, s_27_55, s_27_57, s_27_58, s_27_59, s_27_60, s_27_61, s_27_62, s_27_62i, s_27_63, s_27_64, yO_31, yO_1, c1, if_false, g, cm1, ybo_0, Gk_v, Gk_n, xcat_nil, xcat_i, xcat_r, xcat_l, xcat_d, Nat.zero_le, Nat.reduceAdd, Nat.reduceLeDiff, true_and, and_true, ykl_i, ykl_r, ykl_n, ykl_l]
    · rw [if_pos rfl]
      have hv := ynv_lt h1
      obtain ⟨u2, hu2, C2, -, K2⟩ := yCs_num (d := d) C (lo := 0) (hi := 255) (by decide) h1
      have hu2' : ∀ Q', Cl (d + 2) 89 [.ref 1, .int 0, .int 255] (yemb t) Q' ↔ Q' _ _ := hu2
      generalize ynv n B q = v at *
      have cv : (0 : Int32) ≤ yI v := Int32.not_lt.mp (yI_nneg (by omega))
      have hc8 : c < 8388608 := Nat.lt_of_lt_of_le hc (Nat.le_trans (Nat.pow_le_pow_right (by decide) (show i ≤ 2 by omega)) (by decide))
      have e8 := ysh8 hc8 (show v < 256 by omega)
      have hc' : 256 * c + v < 256 ^ (i + 1) := by
        rw [Nat.pow_succ]
        omega
      obtain ⟨h2, h3⟩ := ih (i + 1) (ynq n B q) (256 * c + v) u2 (some (.int (yI v))) (by omega) C2 hc'
      have step : ∀ Q, G (d + 3) 27 35 [some (.ref 31), some (.int x1), some (.int x2), some (.int (yI c)), some (.int (yI i)), l5] [] (yemb t) Q ↔ G (d + 3) 27 35 [some (.ref 31), some (.int x1), some (.int x2), some (.int (yI (256 * c + v))), some (.int (yI (i + 1))), some (.int (yI v))] [] (yemb u2) Q := by
        intro Q
        rw [s_27_35]
        simp only [s_27_0, s_27_1, s_27_2, s_27_3, s_27_4, s_27_5, s_27_6, s_27_7, s_27_8, s_27_9, s_27_10, s_27_11, s_27_12, s_27_13, s_27_14, s_27_15, s_27_16, s_27_17, s_27_18, s_27_19, s_27_20, s_27_21, s_27_22, s_27_23, s_27_24, s_27_25, s_27_26, s_27_27, s_27_28, s_27_29, s_27_30, s_27_31, s_27_32, s_27_33, s_27_34, s_27_36, s_27_37, s_27_38, s_27_39, s_27_40, s_27_41, s_27_42, s_27_43, s_27_44, s_27_45, s_27_46, s_27_47, s_27_48, s_27_49, s_27_50, s_27_51, s_27_52, s_27_53, s_27_54, s_27_55, s_27_57, s_27_58, s_27_59, s_27_60, s_27_61, s_27_62, s_27_62i, s_27_63, s_27_64, yO_31, yO_1, c1, if_false, hu2', cv, if_true, e8, h7, Gk_v, Gk_n, xcat_nil, xcat_i, xcat_r, xcat_l, xcat_d, Nat.zero_le, Nat.reduceAdd, Nat.reduceLeDiff, true_and, and_true, ykl_i, ykl_r, ykl_n, ykl_l]
      refine ⟨fun e a h => ?_, fun q' c' h => ?_⟩
      · obtain ⟨u, hu, x8, x9, x10, x11⟩ := h2 e a h
        exact ⟨u, fun Q => (step Q).trans (hu Q), x8, x9, yKc_x K2 x10, x11⟩
      · obtain ⟨u, l5', hu, Cu, Ku⟩ := h3 q' c' h
        exact ⟨u, l5', fun Q => (step Q).trans (hu Q), Cu, yKc_tr K2 Ku⟩
theorem m_27 (K : yUk U) (C : yCs z0 s0 t n B q U) (hw : yisw n B q 6 = true) : yRc (fun r' s' => Ra (d + 3) 27 [.ref 31] (yemb t) r' s') z0 s0 t n B (yrfill n B (ysk n B (q + ywl 6)) U) := by
  obtain ⟨u1, hu1, C1, K1⟩ := yCs_adv (d := d + 1) C (by decide) hw
  have hn1 := K.1.n1
  have hn40 := K.1.n40
  generalize ysk n B (q + ywl 6) = q1 at *
  have en : yI U.1.n - 1 = yI (U.1.n - 1) := yI_sub1 hn1
  have cm1 : ¬ (0 : Int32) ≤ -1 := by decide
  unfold yrfill
  cases h1 : ynum n B q1 0 (U.1.n - 1)
  · rw [if_neg (by decide)]
    have g : ∀ Q', Cl (d + 2) 89 [.ref 1, .int 0, .int (yI (U.1.n - 1))] (yemb u1) Q' ↔ Q' _ _ := m_89f (d := d) C1.1 (lo := 0) (by decide) (by omega) h1
    refine ⟨_, fun Q => ?_, yCs_err C1 K1⟩
    show G (d + 3) 27 0 [some (.ref 31), none, none, none, none, none] [] (yemb t) Q ↔ _
    simp only [s_27_0, s_27_1, s_27_2, s_27_3, s_27_4, s_27_5, s_27_6, s_27_7, s_27_8, s_27_9, s_27_10, s_27_11, s_27_12, s_27_13, s_27_14, s_27_15, s_27_16, s_27_17, s_27_18, s_27_19, s_27_20, s_27_21, s_27_22, s_27_23, s_27_24, s_27_25, s_27_26, s_27_27, s_27_28, s_27_29, s_27_30, s_27_31, s_27_32, s_27_33, s_27_34, s_27_36, s_27_37, s_27_38, s_27_39, s_27_40, s_27_41, s_27_42, s_27_43, s_27_44, s_27_45, s_27_46, s_27_47, s_27_48, s_27_49, s_27_50, s_27_51, s_27_52, s_27_53, s_27_54, s_27_55, s_27_56, s_27_57, s_27_58, s_27_59, s_27_60, s_27_61, s_27_62, s_27_62i, s_27_63, s_27_64, yO_31, yO_1, yO_19, hu1, C1.2.1.n, en, g, cm1, if_false, ybo_0, Gk_v, Gk_n, xcat_nil, xcat_i, xcat_r, xcat_l, xcat_d, Nat.zero_le, Nat.reduceAdd, Nat.reduceLeDiff, true_and, and_true, ykl_i, ykl_r, ykl_n, ykl_l]
  · rw [if_pos rfl]
    have hv := ynv_lt h1
    obtain ⟨u2, hu2, C2, -, K2⟩ := yCs_num (d := d) C1 (lo := 0) (by omega) h1
    have hu2' : ∀ Q', Cl (d + 2) 89 [.ref 1, .int 0, .int (yI (U.1.n - 1))] (yemb u1) Q' ↔ Q' _ _ := hu2
    have K12 := yKc_tr K1 K2
    generalize ynq n B q1 = q2 at *
    generalize ynv n B q1 = f at *
    have cf : (0 : Int32) ≤ yI f := Int32.not_lt.mp (yI_nneg (by omega))
    cases h2 : ynum n B q2 f (U.1.n - 1)
    · rw [if_neg (by decide)]
      have g : ∀ Q', Cl (d + 2) 89 [.ref 1, .int (yI f), .int (yI (U.1.n - 1))] (yemb u2) Q' ↔ Q' _ _ := m_89f (d := d) C2.1 (by omega) (by omega) h2
      refine ⟨_, fun Q => ?_, yCs_err C2 K12⟩
      show G (d + 3) 27 0 [some (.ref 31), none, none, none, none, none] [] (yemb t) Q ↔ _
      simp only [s_27_0, s_27_1, s_27_2, s_27_3, s_27_4, s_27_5, s_27_6, s_27_7, s_27_8, s_27_9, s_27_10, s_27_11, s_27_12, s_27_13, s_27_14, s_27_15, s_27_16, s_27_17, s_27_18, s_27_19, s_27_20, s_27_21, s_27_22, s_27_23, s_27_24, s_27_25, s_27_26, s_27_27, s_27_28, s_27_29, s_27_30, s_27_31, s_27_32, s_27_33, s_27_34, s_27_36, s_27_37, s_27_38, s_27_39, s_27_40, s_27_41, s_27_42, s_27_43, s_27_44, s_27_45, s_27_46, s_27_47, s_27_48, s_27_49, s_27_50, s_27_51, s_27_52, s_27_53, s_27_54, s_27_55, s_27_56, s_27_57, s_27_58, s_27_59, s_27_60, s_27_61, s_27_62, s_27_62i, s_27_63, s_27_64, yO_31, yO_1, yO_19, hu1, C1.2.1.n, en, hu2', cf, if_true, C2.2.1.n, g, cm1, if_false, ybo_0, Gk_v, Gk_n, xcat_nil, xcat_i, xcat_r, xcat_l, xcat_d, Nat.zero_le, Nat.reduceAdd, Nat.reduceLeDiff, true_and, and_true, ykl_i, ykl_r, ykl_n, ykl_l]
    · rw [if_pos rfl]
      have hv2 := ynv_lt h2
      obtain ⟨u3, hu3, C3, -, K3⟩ := yCs_num (d := d) C2 (by omega) h2
      have K13 := yKc_tr K12 K3
      generalize ynq n B q2 = q3 at *
      generalize ynv n B q2 = p at *
      have cp : (0 : Int32) ≤ yI p := Int32.not_lt.mp (yI_nneg (by omega))
      obtain ⟨h3, h4⟩ := l_27 (d := d) (x1 := yI f) (x2 := yI p) 3 0 q3 0 u3 none (by decide) C3 (by decide)
      have step : ∀ Q, G (d + 3) 27 0 [some (.ref 31), none, none, none, none, none] [] (yemb t) Q ↔ G (d + 3) 27 35 [some (.ref 31), some (.int (yI f)), some (.int (yI p)), some (.int (yI 0)), some (.int (yI 0)), none] [] (yemb u3) Q := by
        intro Q
        simp only [s_27_0, s_27_1, s_27_2, s_27_3, s_27_4, s_27_5, s_27_6, s_27_7, s_27_8, s_27_9, s_27_10, s_27_11, s_27_12, s_27_13, s_27_14, s_27_15, s_27_16, s_27_17, s_27_18, s_27_19, s_27_20, s_27_21, s_27_22, s_27_23, s_27_24, s_27_25, s_27_26, s_27_27, s_27_28, s_27_29, s_27_30, s_27_31, s_27_32, s_27_33, s_27_34, s_27_36, s_27_37, s_27_38, s_27_39, s_27_40, s_27_41, s_27_42, s_27_43, s_27_44, s_27_45, s_27_46, s_27_47, s_27_48, s_27_49, s_27_50, s_27_51, s_27_52, s_27_53, s_27_54, s_27_55, s_27_56, s_27_57, s_27_58, s_27_59, s_27_60, s_27_61, s_27_62, s_27_62i, s_27_63, s_27_64, yO_31, yO_1, yO_19, hu1, C1.2.1.n, en, hu2', cf, if_true, C2.2.1.n, hu3, cp, Gk_v, Gk_n, xcat_nil, xcat_i, xcat_r, xcat_l, xcat_d, Nat.zero_le, Nat.reduceAdd, Nat.reduceLeDiff, true_and, and_true, ykl_i, ykl_r, ykl_n, ykl_l]
        exact Iff.rfl
      cases hr : yrch n B 3 q3 0 with
      | inl e =>
        obtain ⟨c, a⟩ := e
        obtain ⟨u, hu, x8, x9, x10, x11⟩ := h3 c a hr
        refine ⟨u, fun Q => ?_, x8, x9, yKc_x K13 x10, x11⟩
        show G (d + 3) 27 0 [some (.ref 31), none, none, none, none, none] [] (yemb t) Q ↔ _
        exact (step Q).trans (hu Q)
      | inr z =>
        obtain ⟨q4, c⟩ := z
        obtain ⟨u4, l5', hu4, C4, K4⟩ := h4 q4 c hr
        obtain ⟨u5, hu5, W5, F5⟩ := m_39 (d := d + 2) (c := yI c) (f := f) (q := p) (by omega) (by omega) C4.2.1
        obtain ⟨F, hF⟩ := ypt_D (c := yI c) (p + 1 - f) f 0 U.1
        have W6 : yW u5 19 (ypaint U.1 f p c) := W5
        obtain ⟨C6, K6⟩ := yCs_D C4 W6 F5 (fun a h => by omega) (by
          unfold ypaint
          rw [hF]
          rfl)
        refine ⟨u5, fun Q => ?_, C6, yKc_tr (yKc_tr K13 K4) K6⟩
        show G (d + 3) 27 0 [some (.ref 31), none, none, none, none, none] [] (yemb t) Q ↔ _
        refine (step Q).trans ((hu4 Q).trans ?_)
        rw [s_27_56]
        simp only [s_27_0, s_27_1, s_27_2, s_27_3, s_27_4, s_27_5, s_27_6, s_27_7, s_27_8, s_27_9, s_27_10, s_27_11, s_27_12, s_27_13, s_27_14, s_27_15, s_27_16, s_27_17, s_27_18, s_27_19, s_27_20, s_27_21, s_27_22, s_27_23, s_27_24, s_27_25, s_27_26, s_27_27, s_27_28, s_27_29, s_27_30, s_27_31, s_27_32, s_27_33, s_27_34, s_27_36, s_27_37, s_27_38, s_27_39, s_27_40, s_27_41, s_27_42, s_27_43, s_27_44, s_27_45, s_27_46, s_27_47, s_27_48, s_27_49, s_27_50, s_27_51, s_27_52, s_27_53, s_27_54, s_27_55, s_27_56, s_27_57, s_27_58, s_27_59, s_27_60, s_27_61, s_27_62, s_27_62i, s_27_63, s_27_64, yO_31, yO_19, hu5, ybo_1, Gk_v, Gk_n, xcat_nil, xcat_i, xcat_r, xcat_l, xcat_d, Nat.zero_le, Nat.reduceAdd, Nat.reduceLeDiff, true_and, and_true, ykl_i, ykl_r, ykl_n, ykl_l]
end

/-! ===== the class's sums ===== -/
/-- factors that a call reads as the pure reader says -/
abbrev yFz (D : Nat) (dep : Int32) (n : Nat) (B : Nat → Nat) (fac : Nat → List Int32 → yPs) : Prop := ∀ t q l, yTk t n B q → yIt t l → l.length ≤ q → yRz D 70 [.ref 32, .int dep] t n B (fac q l)
section
variable {d : Nat} {n : Nat} {B : Nat → Nat} {fac : Nat → List Int32 → yPs} {dep : Int32}
theorem l_68 (hf : yfwd n fac) (hl : ylen n fac) (H : yFz (d + 2) dep n B fac) : ∀ m (t : yT) (p : Int32) q l i l5, n - q ≤ m → yTk t n B q → yIt t l → l.length + (ypn p).length ≤ q → i ≤ q → yRq (fun r' s' => Ga (d + 3) 68 13 [some (.ref 32), some (.int dep), some (.int p), some (.int (yopc n B q)), some (.int (yI i)), l5] [] (yemb t) r' s') t n B (ycl' n B fac m p q l) := by
  have fin : ∀ (t : yT) (p : Int32) q l i l5, yTk t n B q → yIt t l → l.length + (ypn p).length ≤ q → i ≤ q → yopc n B q = 0 → yRq (fun r' s' => Ga (d + 3) 68 13 [some (.ref 32), some (.int dep), some (.int p), some (.int (yopc n B q)), some (.int (yI i)), l5] [] (yemb t) r' s') t n B (.inr (q, l ++ ypn p)) := by
    intro t p q l i l5 T I hp hi h0
    have h600 := T.1.1
    have hqn := T.2.1
    obtain ⟨u, hu, Iu, Fu⟩ := m_71 (d := d + 1) I (p := p) (by omega)
    refine ⟨u, fun Q => ?_, yTk_ne T Fu (by decide) (by decide), Iu, yKs_i Fu⟩
    rw [s_68_13]
    by_cases h6 : (600 : Int32) ≤ yI i
    · simp only [s_68_14, s_68_15, s_68_54, s_68_55, s_68_56 yO_32, s_68_57, s_68_58, h6, if_true, hu, ybo_1, Gk_v, Gk_n, xcat_nil, xcat_i, xcat_r, xcat_l, xcat_d, Nat.zero_le, Nat.reduceAdd, Nat.reduceLeDiff, true_and, and_true, ykl_i, ykl_r, ykl_n, ykl_l]
    · simp only [s_68_14, s_68_15, s_68_16, s_68_17, s_68_54, s_68_55, s_68_56 yO_32, s_68_57, s_68_58, h6, h0, if_true, if_false, hu, ybo_1, Gk_v, Gk_n, xcat_nil, xcat_i, xcat_r, xcat_l, xcat_d, Nat.zero_le, Nat.reduceAdd, Nat.reduceLeDiff, true_and, and_true, ykl_i, ykl_r, ykl_n, ykl_l]
  intro m
  induction m with
  | zero =>
    intro t p q l i l5 hm T I hp hi
    rw [ycl']
    exact fin t p q l i l5 T I hp hi (yopc_0.mpr ⟨ymul_n (by omega), yadd_n (by omega)⟩)
  | succ m ih =>
    intro t p q l i l5 hm T I hp hi
    have h600 := T.1.1
    have hqn := T.2.1
    rw [ycl']
    by_cases h0 : yopc n B q = 0
    · rw [if_pos h0]
      exact fin t p q l i l5 T I hp hi h0
    · rw [if_neg h0]
      have hop : ymul n B q = true ∨ yadd n B q = true := by
        cases h1 : ymul n B q
        · cases h2 : yadd n B q
          · exact absurd (yopc_0.mpr ⟨h1, h2⟩) h0
          · exact Or.inr rfl
        · exact Or.inl rfl
      have hlt : q < n := hop.elim ymul_lt yadd_lt
      have hs := ysk_le (n := n) (B := B) (m := q + 1) (by omega)
      have h6 : ¬ (600 : Int32) ≤ yI i := fun h' => absurd ((yI_le (n := 600) (by decide) (by omega)).mp h') (by omega)
      have h7 : yI i + 1 = yI (i + 1) := yI_add
      have e1 := yte_op hop
      cases h1 : ymul n B q
      · rw [if_neg (by decide)]
        have h2 : yadd n B q = true := hop.resolve_left (by rw [h1]; decide)
        have ho := yopc_add h2
        have n5 : ¬ yopc n B q = -5 := by rcases ho with h | h <;> rw [h] <;> decide
        have n6 : ¬ yopc n B q = -6 := by rcases ho with h | h <;> rw [h] <;> decide
        have e2 : (ypn (yopc n B q)).length = 1 := by rw [ypn, if_neg h0]; rfl
        obtain ⟨u0, hu0, I0, F0⟩ := m_71 (d := d + 1) I (p := p) (by omega)
        have T0 : yTk u0 n B q := yTk_ne T F0 (by decide) (by decide)
        obtain ⟨u1, hu1, T1, K1⟩ := yTk_adv (d := d + 1) T0
        rw [e1] at T1
        have I1 : yIt u1 (l ++ ypn p) := yIt_ne I0 K1.2 (by decide) (by decide)
        have hlen : (l ++ ypn p).length ≤ ysk n B (q + 1) := by
          rw [List.length_append]
          omega
        have hF := H u1 (ysk n B (q + 1)) (l ++ ypn p) T1 I1 hlen
        have K01 : yKs t u1 := yKs_tr (yKs_i F0) (yKs_p K1)
        cases hr : fac (ysk n B (q + 1)) (l ++ ypn p) with
        | inl e =>
          obtain ⟨c, a⟩ := e
          rw [hr] at hF
          obtain ⟨u2, hu2, x8, x9, K2⟩ := hF
          refine ⟨u2, fun Q => ?_, x8, x9, yKs_e K01 K2⟩
          rw [s_68_13]
          simp only [s_68_0, s_68_1, s_68_2, s_68_3, s_68_4, s_68_5, s_68_6, s_68_7, s_68_8, s_68_9, s_68_10, s_68_11, s_68_12, s_68_14, s_68_15, s_68_16, s_68_17, s_68_18, s_68_19, s_68_20, s_68_21, s_68_22, s_68_23, s_68_24, s_68_25, s_68_26, s_68_27, s_68_28, s_68_29, s_68_30, s_68_31, s_68_32, s_68_33, s_68_34, s_68_35, s_68_36, s_68_37, s_68_38, s_68_39, s_68_40, s_68_41, s_68_42, s_68_43, s_68_44, s_68_45, s_68_46, s_68_47, s_68_48, s_68_49, s_68_50, s_68_51, s_68_52, s_68_53, s_68_54, s_68_55, s_68_56, s_68_57, s_68_58, yO_32, yO_1, h6, h0, n5, n6, if_true, if_false, hu0, hu1, hu2, ne_eq, not_true_eq_false, not_false_eq_true, ybo_0, Gk_v, Gk_n, xcat_nil, xcat_i, xcat_r, xcat_l, xcat_d, Nat.zero_le, Nat.reduceAdd, Nat.reduceLeDiff, true_and, and_true, ykl_i, ykl_r, ykl_n, ykl_l]
        | inr z =>
          obtain ⟨q1, l1⟩ := z
          rw [hr] at hF
          obtain ⟨u2, hu2, T2, I2, K2⟩ := hF
          have g1 := hf _ _ _ _ hs.2 hr
          have g2 := hl _ _ _ _ hs.2 hr
          rw [List.length_append] at g2
          have g69 := m_69 (d := d + 1) T2
          have hih := ih u2 (yopc n B q) q1 l1 (i + 1) (some (.int 0)) (by omega) T2 I2 (by rw [e2]; omega) (by omega)
          rw [ythen_ok]
          refine yRq_to (yKs_tr K01 K2) (fun r' s' hg Q => ?_) hih
          have hg' := hg Q
          have c10 : ¬ (1 : Int32) = 0 := by decide
          rw [s_68_13]
          simp only [s_68_0, s_68_1, s_68_2, s_68_3, s_68_4, s_68_5, s_68_6, s_68_7, s_68_8, s_68_9, s_68_10, s_68_11, s_68_12, s_68_14, s_68_15, s_68_16, s_68_17, s_68_18, s_68_19, s_68_20, s_68_21, s_68_22, s_68_23, s_68_24, s_68_25, s_68_26, s_68_27, s_68_28, s_68_29, s_68_30, s_68_31, s_68_32, s_68_33, s_68_34, s_68_35, s_68_36, s_68_37, s_68_38, s_68_39, s_68_40, s_68_41, s_68_42, s_68_43, s_68_44, s_68_45, s_68_46, s_68_47, s_68_48, s_68_49, s_68_50, s_68_51, s_68_52, s_68_53, s_68_54, s_68_55, s_68_56, s_68_57, s_68_58, yO_32, yO_1, h6, h0, n5, n6, c10, if_true, if_false, hu0, hu1, hu2, g69, ne_eq, not_true_eq_false, not_false_eq_true, h7, Gk_v, Gk_n, xcat_nil, xcat_i, xcat_r, xcat_l, xcat_d, Nat.zero_le, Nat.reduceAdd, Nat.reduceLeDiff, true_and, and_true, ykl_i, ykl_r, ykl_n, ykl_l]
          exact hg'
      · rw [if_pos rfl]
        have ho := yopc_mul h1
        obtain ⟨u1, hu1, T1, K1⟩ := yTk_adv (d := d + 1) T
        rw [e1] at T1
        have I1 : yIt u1 l := yIt_ne I K1.2 (by decide) (by decide)
        have hF := H u1 (ysk n B (q + 1)) l T1 I1 (by omega)
        have K01 : yKs t u1 := yKs_p K1
        have c10 : ¬ (1 : Int32) = 0 := by decide
        have c65 : ¬ (-6 : Int32) = -5 := by decide
        have c5 : ¬ (-5 : Int32) = 0 := by decide
        have c6 : ¬ (-6 : Int32) = 0 := by decide
        cases hr : fac (ysk n B (q + 1)) l with
        | inl e =>
          obtain ⟨c, a⟩ := e
          rw [hr] at hF
          obtain ⟨u2, hu2, x8, x9, K2⟩ := hF
          refine ⟨u2, fun Q => ?_, x8, x9, yKs_e K01 K2⟩
          rcases ho with ho | ho
          · rw [ho, s_68_13]
            simp only [s_68_0, s_68_1, s_68_2, s_68_3, s_68_4, s_68_5, s_68_6, s_68_7, s_68_8, s_68_9, s_68_10, s_68_11, s_68_12, s_68_14, s_68_15, s_68_16, s_68_17, s_68_18, s_68_19, s_68_20, s_68_21, s_68_22, s_68_23, s_68_24, s_68_25, s_68_26, s_68_27, s_68_28, s_68_29, s_68_30, s_68_31, s_68_32, s_68_33, s_68_34, s_68_35, s_68_36, s_68_37, s_68_38, s_68_39, s_68_40, s_68_41, s_68_42, s_68_43, s_68_44, s_68_45, s_68_46, s_68_47, s_68_48, s_68_49, s_68_50, s_68_51, s_68_52, s_68_53, s_68_54, s_68_55, s_68_56, s_68_57, s_68_58, yO_32, yO_1, h6, c5, c10, if_true, if_false, hu1, hu2, ne_eq, not_true_eq_false, not_false_eq_true, ybo_0, Gk_v, Gk_n, xcat_nil, xcat_i, xcat_r, xcat_l, xcat_d, Nat.zero_le, Nat.reduceAdd, Nat.reduceLeDiff, true_and, and_true, ykl_i, ykl_r, ykl_n, ykl_l]
          · rw [ho, s_68_13]
            simp only [s_68_0, s_68_1, s_68_2, s_68_3, s_68_4, s_68_5, s_68_6, s_68_7, s_68_8, s_68_9, s_68_10, s_68_11, s_68_12, s_68_14, s_68_15, s_68_16, s_68_17, s_68_18, s_68_19, s_68_20, s_68_21, s_68_22, s_68_23, s_68_24, s_68_25, s_68_26, s_68_27, s_68_28, s_68_29, s_68_30, s_68_31, s_68_32, s_68_33, s_68_34, s_68_35, s_68_36, s_68_37, s_68_38, s_68_39, s_68_40, s_68_41, s_68_42, s_68_43, s_68_44, s_68_45, s_68_46, s_68_47, s_68_48, s_68_49, s_68_50, s_68_51, s_68_52, s_68_53, s_68_54, s_68_55, s_68_56, s_68_57, s_68_58, yO_32, yO_1, h6, c6, c65, c10, if_true, if_false, hu1, hu2, ne_eq, not_true_eq_false, not_false_eq_true, ybo_0, Gk_v, Gk_n, xcat_nil, xcat_i, xcat_r, xcat_l, xcat_d, Nat.zero_le, Nat.reduceAdd, Nat.reduceLeDiff, true_and, and_true, ykl_i, ykl_r, ykl_n, ykl_l]
        | inr z =>
          obtain ⟨q1, l1⟩ := z
          rw [hr] at hF
          obtain ⟨u2, hu2, T2, I2, K2⟩ := hF
          have g1 := hf _ _ _ _ hs.2 hr
          have g2 := hl _ _ _ _ hs.2 hr
          obtain ⟨u3, hu3, I3, F3⟩ := m_71 (d := d + 1) I2 (p := yopc n B q) (by rw [ypn, if_neg h0]; show l1.length + 1 ≤ 600; omega)
          rw [ypn, if_neg h0] at I3
          have T3 : yTk u3 n B q1 := yTk_ne T2 F3 (by decide) (by decide)
          have g69 := m_69 (d := d + 1) T3
          have hih := ih u3 p q1 (l1 ++ [yopc n B q]) (i + 1) (some (.int 1)) (by omega) T3 I3 (by rw [yap1]; omega) (by omega)
          rw [ythen_ok]
          refine yRq_to (yKs_tr (yKs_tr K01 K2) (yKs_i F3)) (fun r' s' hg Q => ?_) hih
          have hg' := hg Q
          rcases ho with ho | ho
          · rw [ho] at hu3
            rw [ho, s_68_13]
            simp only [s_68_0, s_68_1, s_68_2, s_68_3, s_68_4, s_68_5, s_68_6, s_68_7, s_68_8, s_68_9, s_68_10, s_68_11, s_68_12, s_68_14, s_68_15, s_68_16, s_68_17, s_68_18, s_68_19, s_68_20, s_68_21, s_68_22, s_68_23, s_68_24, s_68_25, s_68_26, s_68_27, s_68_28, s_68_29, s_68_30, s_68_31, s_68_32, s_68_33, s_68_34, s_68_35, s_68_36, s_68_37, s_68_38, s_68_39, s_68_40, s_68_41, s_68_42, s_68_43, s_68_44, s_68_45, s_68_46, s_68_47, s_68_48, s_68_49, s_68_50, s_68_51, s_68_52, s_68_53, s_68_54, s_68_55, s_68_56, s_68_57, s_68_58, yO_32, yO_1, h6, c5, c10, if_true, if_false, hu1, hu2, hu3, g69, ne_eq, not_true_eq_false, not_false_eq_true, h7, Gk_v, Gk_n, xcat_nil, xcat_i, xcat_r, xcat_l, xcat_d, Nat.zero_le, Nat.reduceAdd, Nat.reduceLeDiff, true_and, and_true, ykl_i, ykl_r, ykl_n, ykl_l]
            exact hg'
          · rw [ho] at hu3
            rw [ho, s_68_13]
            simp only [s_68_0, s_68_1, s_68_2, s_68_3, s_68_4, s_68_5, s_68_6, s_68_7, s_68_8, s_68_9, s_68_10, s_68_11, s_68_12, s_68_14, s_68_15, s_68_16, s_68_17, s_68_18, s_68_19, s_68_20, s_68_21, s_68_22, s_68_23, s_68_24, s_68_25, s_68_26, s_68_27, s_68_28, s_68_29, s_68_30, s_68_31, s_68_32, s_68_33, s_68_34, s_68_35, s_68_36, s_68_37, s_68_38, s_68_39, s_68_40, s_68_41, s_68_42, s_68_43, s_68_44, s_68_45, s_68_46, s_68_47, s_68_48, s_68_49, s_68_50, s_68_51, s_68_52, s_68_53, s_68_54, s_68_55, s_68_56, s_68_57, s_68_58, yO_32, yO_1, h6, c6, c65, c10, if_true, if_false, hu1, hu2, hu3, g69, ne_eq, not_true_eq_false, not_false_eq_true, h7, Gk_v, Gk_n, xcat_nil, xcat_i, xcat_r, xcat_l, xcat_d, Nat.zero_le, Nat.reduceAdd, Nat.reduceLeDiff, true_and, and_true, ykl_i, ykl_r, ykl_n, ykl_l]
            exact hg'
end

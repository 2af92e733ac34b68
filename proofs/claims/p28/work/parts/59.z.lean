/-! ===== the class's sums whole ===== -/
section
variable {d : Nat} {n : Nat} {B : Nat → Nat} {fac : Nat → List Int32 → yPs} {dep : Int32}
theorem m_68 (hf : yfwd n fac) (hl : ylen n fac) (H : yFz (d + 2) dep n B fac) {t : yT} {q : Nat} {l : List Int32} (T : yTk t n B q) (I : yIt t l) (hlq : l.length ≤ q) : yRz (d + 3) 68 [.ref 32, .int dep] t n B (ysu n B fac q l) := by
  have h600 := T.1.1
  have hqn := T.2.1
  rw [← ysu_eq hf hqn]
  unfold ysu'
  have hF := H t q l T I hlq
  cases hr : fac q l with
  | inl e =>
    obtain ⟨c, a⟩ := e
    rw [hr] at hF
    obtain ⟨u2, hu2, x8, x9, K2⟩ := hF
    refine ⟨u2, fun Q => ?_, x8, x9, K2⟩
    show G (d + 3) 68 0 [some (.ref 32), some (.int dep), none, none, none, none] [] (yemb t) Q ↔ _
    simp only [s_68_0, s_68_1, s_68_2, s_68_3, s_68_4, s_68_5, s_68_6, s_68_7, s_68_8, s_68_9, s_68_10, s_68_11, s_68_12, s_68_14, s_68_15, s_68_16, s_68_17, s_68_18, s_68_19, s_68_20, s_68_21, s_68_22, s_68_23, s_68_24, s_68_25, s_68_26, s_68_27, s_68_28, s_68_29, s_68_30, s_68_31, s_68_32, s_68_33, s_68_34, s_68_35, s_68_36, s_68_37, s_68_38, s_68_39, s_68_40, s_68_41, s_68_42, s_68_43, s_68_44, s_68_45, s_68_46, s_68_47, s_68_48, s_68_49, s_68_50, s_68_51, s_68_52, s_68_53, s_68_54, s_68_55, s_68_56, s_68_57, s_68_58, yO_32, yO_1, hu2, ne_eq, not_true_eq_false, if_false, ybo_0, Gk_v, Gk_n, xcat_nil, xcat_i, xcat_r, xcat_l, xcat_d, Nat.zero_le, Nat.reduceAdd, Nat.reduceLeDiff, true_and, and_true, ykl_i, ykl_r, ykl_n, ykl_l]
  | inr z =>
    obtain ⟨q1, l1⟩ := z
    rw [hr] at hF
    obtain ⟨u2, hu2, T2, I2, K2⟩ := hF
    have g1 := hf _ _ _ _ hqn hr
    have g2 := hl _ _ _ _ hqn hr
    have g69 := m_69 (d := d + 1) T2
    have c10 : ¬ (1 : Int32) = 0 := by decide
    have hpl : l1.length + (ypn 0).length ≤ q1 := by
      have e : (ypn 0).length = 0 := rfl
      omega
    have hL := l_68 (d := d) hf hl H n u2 0 q1 l1 0 none (by omega) T2 I2 hpl (Nat.zero_le _)
    rw [ythen_ok]
    refine yRq_to K2 (fun r' s' hg Q => ?_) hL
    have hg' := hg Q
    show G (d + 3) 68 0 [some (.ref 32), some (.int dep), none, none, none, none] [] (yemb t) Q ↔ _
    simp only [s_68_0, s_68_1, s_68_2, s_68_3, s_68_4, s_68_5, s_68_6, s_68_7, s_68_8, s_68_9, s_68_10, s_68_11, s_68_12, s_68_14, s_68_15, s_68_16, s_68_17, s_68_18, s_68_19, s_68_20, s_68_21, s_68_22, s_68_23, s_68_24, s_68_25, s_68_26, s_68_27, s_68_28, s_68_29, s_68_30, s_68_31, s_68_32, s_68_33, s_68_34, s_68_35, s_68_36, s_68_37, s_68_38, s_68_39, s_68_40, s_68_41, s_68_42, s_68_43, s_68_44, s_68_45, s_68_46, s_68_47, s_68_48, s_68_49, s_68_50, s_68_51, s_68_52, s_68_53, s_68_54, s_68_55, s_68_56, s_68_57, s_68_58, yO_32, yO_1, hu2, c10, ne_eq, not_false_eq_true, if_true, g69, Gk_v, Gk_n, xcat_nil, xcat_i, xcat_r, xcat_l, xcat_d, Nat.zero_le, Nat.reduceAdd, Nat.reduceLeDiff, true_and, and_true, ykl_i, ykl_r, ykl_n, ykl_l]
    exact hg'
/-- factors at every nesting -/
theorem m_70 : ∀ k, k ≤ 4 → yFz (d + 5 + 2 * k) (yI (4 - k)) n B (yfac n B k) := by
  intro k
  induction k with
  | zero =>
    intro _ t q l T I hlq
    rw [yfac]
    cases h40 : yat n B q 40
    · rw [if_neg (by decide)]
      exact m_70l (d := d) T I hlq h40
    · rw [if_pos rfl]
      have g40 : ∀ Q', Cl (d + 4) 84 [.ref 1, .int 40] (yemb t) Q' ↔ Q' (.inl (some (.int (yb (yat n B q 40))))) (yemb t) := m_84 (d := d + 4) T (c := 40) (by decide) (by decide) (by decide)
      rw [h40] at g40
      have g90 := m_90 (d := d + 3) (t := t) (c := -6)
      rw [T.2.2.1] at g90
      have c1 : ¬ yI (4 - 0) < 4 := by decide
      refine ⟨_, fun Q => ?_, yrf_8, yrf_9, yKe_rf⟩
      show G (d + 5) 70 0 [some (.ref 32), some (.int (yI (4 - 0))), none] [] (yemb t) Q ↔ _
      simp only [s_70_0, s_70_1, s_70_2, s_70_3, s_70_4, s_70_5, s_70_6, s_70_7, s_70_8, s_70_9, s_70_10, s_70_11, s_70_12, s_70_13, s_70_14, s_70_15, s_70_16, s_70_17, s_70_18, s_70_19, s_70_20, s_70_21, s_70_22, s_70_23, s_70_24, s_70_25, s_70_26, s_70_27, s_70_28, s_70_29, s_70_30, s_70_31, s_70_32, s_70_33, s_70_34, s_70_35, s_70_36, s_70_37, s_70_38, s_70_39, s_70_40, s_70_41, s_70_42, s_70_43, s_70_44, s_70_45, s_70_46, s_70_47, s_70_48, s_70_49, s_70_50, s_70_51, s_70_52, s_70_53, s_70_54, s_70_55, s_70_56, s_70_57, s_70_58, s_70_59, s_70_60, s_70_61, s_70_62, s_70_63, s_70_64, s_70_65, s_70_66, s_70_67, s_70_68, s_70_69, s_70_70, yO_32, yO_1, g40, ifb, if_true, c1, if_false, g90, ybo_0, Gk_v, Gk_n, xcat_nil, xcat_i, xcat_r, xcat_l, xcat_d, Nat.zero_le, Nat.reduceAdd, Nat.reduceLeDiff, true_and, and_true, ykl_i, ykl_r, ykl_n, ykl_l]
  | succ k ih =>
    intro hk t q l T I hlq
    have H := ih (by omega)
    rw [yfac]
    cases h40 : yat n B q 40
    · rw [if_neg (by decide)]
      have hL := m_70l (d := d + 2 * (k + 1)) (dep := yI (4 - (k + 1))) T I hlq h40
      rw [show d + 2 * (k + 1) + 5 = d + 5 + 2 * (k + 1) by omega] at hL
      exact hL
    · rw [if_pos rfl]
      have hlt : q < n := (of_decide_eq_true h40).1
      have hs := ysk_le (n := n) (B := B) (m := q + 1) (by omega)
      have eD : d + 5 + 2 * (k + 1) = (d + 3 + 2 * k) + 3 + 1 := by omega
      rw [eD]
      rw [show d + 5 + 2 * k = (d + 3 + 2 * k) + 2 by omega] at H
      generalize d + 3 + 2 * k = D at *
      have g40 : ∀ Q', Cl (D + 3) 84 [.ref 1, .int 40] (yemb t) Q' ↔ Q' (.inl (some (.int (yb (yat n B q 40))))) (yemb t) := m_84 (d := D + 3) T (c := 40) (by decide) (by decide) (by decide)
      rw [h40] at g40
      have c1 : yI (4 - (k + 1)) < 4 := (yI_lt (m := 4) (by omega) (by decide)).mpr (by omega)
      have c2 : yI (4 - (k + 1)) + 1 = yI (4 - k) := by
        have e : yI (4 - (k + 1)) + 1 = yI (4 - (k + 1) + 1) := yI_add
        rw [e, show 4 - (k + 1) + 1 = 4 - k by omega]
      obtain ⟨u1, hu1, T1, K1⟩ := yTk_adv (d := D + 2) T
      rw [yte_sg h40 (by decide) (by decide)] at T1
      have I1 : yIt u1 l := yIt_ne I K1.2 (by decide) (by decide)
      have hS := m_68 (d := D) (yfac_fwd k) (yfac_len k) H T1 I1 (by omega)
      have c10 : ¬ (1 : Int32) = 0 := by decide
      cases hr : ysu n B (yfac n B k) (ysk n B (q + 1)) l with
      | inl e =>
        obtain ⟨c, a⟩ := e
        rw [hr] at hS
        obtain ⟨u2, hu2, x8, x9, K2⟩ := hS
        refine ⟨u2, fun Q => ?_, x8, x9, yKs_e (yKs_p K1) K2⟩
        show G (D + 3 + 1) 70 0 [some (.ref 32), some (.int (yI (4 - (k + 1)))), none] [] (yemb t) Q ↔ _
        simp only [s_70_0, s_70_1, s_70_2, s_70_3, s_70_4, s_70_5, s_70_6, s_70_7, s_70_8, s_70_9, s_70_10, s_70_11, s_70_12, s_70_13, s_70_14, s_70_15, s_70_16, s_70_17, s_70_18, s_70_19, s_70_20, s_70_21, s_70_22, s_70_23, s_70_24, s_70_25, s_70_26, s_70_27, s_70_28, s_70_29, s_70_30, s_70_31, s_70_32, s_70_33, s_70_34, s_70_35, s_70_36, s_70_37, s_70_38, s_70_39, s_70_40, s_70_41, s_70_42, s_70_43, s_70_44, s_70_45, s_70_46, s_70_47, s_70_48, s_70_49, s_70_50, s_70_51, s_70_52, s_70_53, s_70_54, s_70_55, s_70_56, s_70_57, s_70_58, s_70_59, s_70_60, s_70_61, s_70_62, s_70_63, s_70_64, s_70_65, s_70_66, s_70_67, s_70_68, s_70_69, s_70_70, yO_32, yO_1, g40, ifb, if_true, c1, c2, hu1, hu2, ybo_0, Gk_v, Gk_n, xcat_nil, xcat_i, xcat_r, xcat_l, xcat_d, Nat.zero_le, Nat.reduceAdd, Nat.reduceLeDiff, true_and, and_true, ykl_i, ykl_r, ykl_n, ykl_l]
      | inr z =>
        obtain ⟨q1, l1⟩ := z
        rw [hr] at hS
        obtain ⟨u2, hu2, T2, I2, K2⟩ := hS
        rw [ythen_ok]
        cases h41 : yat n B q1 41
        · rw [if_neg (by decide)]
          have g87 : ∀ Q', Cl (D + 3) 87 [.ref 1, .int 41] (yemb u2) Q' ↔ Q' _ _ := m_87f (d := D + 1) T2 (c := 41) (by decide) (by decide) (by decide) (of_decide_eq_false h41)
          refine ⟨_, fun Q => ?_, yrf_8, yrf_9, yKs_e (yKs_tr (yKs_p K1) K2) yKe_rf⟩
          show G (D + 3 + 1) 70 0 [some (.ref 32), some (.int (yI (4 - (k + 1)))), none] [] (yemb t) Q ↔ _
          simp only [s_70_0, s_70_1, s_70_2, s_70_3, s_70_4, s_70_5, s_70_6, s_70_7, s_70_8, s_70_9, s_70_10, s_70_11, s_70_12, s_70_13, s_70_14, s_70_15, s_70_16, s_70_17, s_70_18, s_70_19, s_70_20, s_70_21, s_70_22, s_70_23, s_70_24, s_70_25, s_70_26, s_70_27, s_70_28, s_70_29, s_70_30, s_70_31, s_70_32, s_70_33, s_70_34, s_70_35, s_70_36, s_70_37, s_70_38, s_70_39, s_70_40, s_70_41, s_70_42, s_70_43, s_70_44, s_70_45, s_70_46, s_70_47, s_70_48, s_70_49, s_70_50, s_70_51, s_70_52, s_70_53, s_70_54, s_70_55, s_70_56, s_70_57, s_70_58, s_70_59, s_70_60, s_70_61, s_70_62, s_70_63, s_70_64, s_70_65, s_70_66, s_70_67, s_70_68, s_70_69, s_70_70, yO_32, yO_1, g40, ifb, if_true, if_false, c1, c2, hu1, hu2, c10, g87, ybo_0, Gk_v, Gk_n, xcat_nil, xcat_i, xcat_r, xcat_l, xcat_d, Nat.zero_le, Nat.reduceAdd, Nat.reduceLeDiff, true_and, and_true, ykl_i, ykl_r, ykl_n, ykl_l]
        · rw [if_pos rfl]
          obtain ⟨u3, hu3, T3, K3⟩ := m_87t (d := D + 1) T2 (c := 41) (by decide) (by decide) (by decide) (of_decide_eq_true h41)
          have hu3' : ∀ Q', Cl (D + 3) 87 [.ref 1, .int 41] (yemb u2) Q' ↔ Q' _ _ := hu3
          refine ⟨u3, fun Q => ?_, T3, yIt_ne I2 K3.2 (by decide) (by decide), yKs_tr (yKs_tr (yKs_p K1) K2) (yKs_p K3)⟩
          show G (D + 3 + 1) 70 0 [some (.ref 32), some (.int (yI (4 - (k + 1)))), none] [] (yemb t) Q ↔ _
          simp only [s_70_0, s_70_1, s_70_2, s_70_3, s_70_4, s_70_5, s_70_6, s_70_7, s_70_8, s_70_9, s_70_10, s_70_11, s_70_12, s_70_13, s_70_14, s_70_15, s_70_16, s_70_17, s_70_18, s_70_19, s_70_20, s_70_21, s_70_22, s_70_23, s_70_24, s_70_25, s_70_26, s_70_27, s_70_28, s_70_29, s_70_30, s_70_31, s_70_32, s_70_33, s_70_34, s_70_35, s_70_36, s_70_37, s_70_38, s_70_39, s_70_40, s_70_41, s_70_42, s_70_43, s_70_44, s_70_45, s_70_46, s_70_47, s_70_48, s_70_49, s_70_50, s_70_51, s_70_52, s_70_53, s_70_54, s_70_55, s_70_56, s_70_57, s_70_58, s_70_59, s_70_60, s_70_61, s_70_62, s_70_63, s_70_64, s_70_65, s_70_66, s_70_67, s_70_68, s_70_69, s_70_70, yO_32, yO_1, g40, ifb, if_true, if_false, c1, c2, hu1, hu2, c10, hu3', ybo_1, Gk_v, Gk_n, xcat_nil, xcat_i, xcat_r, xcat_l, xcat_d, Nat.zero_le, Nat.reduceAdd, Nat.reduceLeDiff, true_and, and_true, ykl_i, ykl_r, ykl_n, ykl_l]
/-- a whole sum of a text -/
def ysum' (n : Nat) (B : Nat → Nat) (q : Nat) : yPs := ysu n B (yfac n B 4) q []
theorem m_68' {t : yT} {q : Nat} (T : yTk t n B q) (I : yIt t []) : yRz (d + 14) 68 [.ref 32, .int 0] t n B (ysum' n B q) :=
  m_68 (d := d + 11) (dep := yI (4 - 4)) (yfac_fwd 4) (yfac_len 4) (m_70 (d := d) 4 (Nat.le_refl _)) T I (Nat.zero_le _)
end

/-! ===== the class's sums: factors that are no sums ===== -/
abbrev yKs (t u : yT) : Prop := (∀ j, (j < 3 ∨ 7 < j) → u.A 1 j = t.A 1 j) ∧ yFr (fun a => a = 1 ∨ a = 32 ∨ a = 33) t u
abbrev yKe (t u : yT) : Prop := (∀ j, j < 3 → u.A 1 j = t.A 1 j) ∧ yFr (fun a => a = 1 ∨ a = 32 ∨ a = 33) t u
/-- a reading call that does as the pure reader says -/
def yRz (D k : Nat) (as : List Value) (t : yT) (n : Nat) (B : Nat → Nat) (r : yPs) : Prop := match r with
  | .inr (q', l') => ∃ u, Ra D k as (yemb t) (.inl (some (.int 1))) (yemb u) ∧ (yTk u n B q' ∧ (yIt u l' ∧ yKs t u))
  | .inl (c, a) => ∃ u, Ra D k as (yemb t) (.inl (some (.int 0))) (yemb u) ∧ (u.A 1 8 = c ∧ (u.A 1 9 = yI a ∧ yKe t u))
theorem yKs_tr {t u v : yT} (h1 : yKs t u) (h2 : yKs u v) : yKs t v := ⟨fun j hj => by rw [h2.1 j hj, h1.1 j hj], h1.2.trans h2.2 (fun a h => by omega)⟩
theorem yKs_e {t u v : yT} (h1 : yKs t u) (h2 : yKe u v) : yKe t v := ⟨fun j hj => by rw [h2.1 j hj, h1.1 j (by omega)], h1.2.trans h2.2 (fun a h => by omega)⟩
theorem yKs_p {t u : yT} (h : yKp t u) : yKs t u := ⟨fun j hj => h.1 j (by omega), h.2.mono (fun a h => Or.inl h)⟩
theorem yKs_q {t u : yT} (h : yKq t u) : yKs t u := ⟨h.1, h.2.mono (fun a h => Or.inl h)⟩
theorem yKs_i {t u : yT} (F : yFr (fun a => a = 32 ∨ a = 33) t u) : yKs t u := ⟨fun j _ => by rw [F.A (by decide)], F.mono (fun a h => Or.inr h)⟩
theorem yKe_rf {t : yT} {c a : Int32} : yKe t (yrf t c a) := ⟨fun j hj => yrf_j (by omega) (by omega), yrf_fr.mono (fun a h => Or.inl h)⟩
theorem yisw_lt {n : Nat} {B : Nat → Nat} {q i : Nat} (hi : i < 14) (hq : q ≤ n) (h : yisw n B q i = true) : q < n := by
  have g1 := yisw_e hi hq h
  have g2 := yte_le (n := n) (B := B) hq
  have g3 := (yw_ok i hi).1.1
  omega
theorem ynum_lt {n : Nat} {B : Nat → Nat} {q lo hi : Nat} (h : ynum n B q lo hi = true) : q < n ∧ (lo ≤ yvm B (n - q) q 0 ∧ yvm B (n - q) q 0 ≤ hi) := by
  unfold ynum at h
  rw [Bool.and_eq_true, Bool.and_eq_true, decide_eq_true_iff, decide_eq_true_iff] at h
  exact ⟨h.1.1, h.2⟩
section
variable {d : Nat} {n : Nat} {B : Nat → Nat}
theorem m_70l {t : yT} {q : Nat} {l : List Int32} {dep : Int32} (T : yTk t n B q) (I : yIt t l) (hl : l.length ≤ q) (h40 : yat n B q 40 = false) : yRz (d + 5) 70 [.ref 32, .int dep] t n B (yleaf n B q l) := by
  have h600 := T.1.1
  have g40 : ∀ Q', Cl (d + 4) 84 [.ref 1, .int 40] (yemb t) Q' ↔ Q' (.inl (some (.int (yb (yat n B q 40))))) (yemb t) := m_84 (d := d + 4) T (c := 40) (by decide) (by decide) (by decide)
  rw [h40] at g40
  have g13 := m_85 (d := d) T (i := 13) (by decide)
  have g7 := m_85 (d := d) T (i := 7) (by decide)
  unfold yleaf
  cases h1 : yisw n B q 13
  · rw [h1] at g13
    rw [if_neg (by decide)]
    cases h2 : yisw n B q 7
    · rw [h2] at g7
      rw [if_neg (by decide)]
      cases h3 : ynum n B q 0 9999
      · rw [if_neg (by decide)]
        have g89 : ∀ Q', Cl (d + 4) 89 [.ref 1, .int 0, .int 9999] (yemb t) Q' ↔ Q' _ _ := m_89f (d := d + 2) T (lo := 0) (hi := 9999) (by decide) (by decide) h3
        have c1 : ¬ (0 : Int32) ≤ -1 := by decide
        refine ⟨_, fun Q => ?_, yrf_8, yrf_9, yKe_rf⟩
        show G (d + 5) 70 0 [some (.ref 32), some (.int dep), none] [] (yemb t) Q ↔ _
        simp only [s_70_0, s_70_1, s_70_2, s_70_3, s_70_4, s_70_5, s_70_6, s_70_7, s_70_8, s_70_9, s_70_10, s_70_11, s_70_12, s_70_13, s_70_14, s_70_15, s_70_16, s_70_17, s_70_18, s_70_19, s_70_20, s_70_21, s_70_22, s_70_23, s_70_24, s_70_25, s_70_26, s_70_27, s_70_28, s_70_29, s_70_30, s_70_31, s_70_32, s_70_33, s_70_34, s_70_35, s_70_36, s_70_37, s_70_38, s_70_39, s_70_40, s_70_41, s_70_42, s_70_43, s_70_44, s_70_45, s_70_46, s_70_47, s_70_48, s_70_49, s_70_50, s_70_51, s_70_52, s_70_53, s_70_54, s_70_55, s_70_56, s_70_57, s_70_58, s_70_59, s_70_60, s_70_61, s_70_62, s_70_63, s_70_64, s_70_65, s_70_66, s_70_67, s_70_68, s_70_69, s_70_70, yO_32, yO_1, g40, g13, g7, g89, ifb, ifbn, Bool.false_eq_true, if_false, c1, ybo_0, Gk_v, Gk_n, xcat_nil, xcat_i, xcat_r, xcat_l, xcat_d, Nat.zero_le, Nat.reduceAdd, Nat.reduceLeDiff, true_and, and_true, ykl_i, ykl_r, ykl_n, ykl_l]
      · rw [if_pos rfl]
        obtain ⟨hlt, hv1, hv2⟩ := ynum_lt h3
        obtain ⟨u1, hu1, T1, -, K1⟩ := m_89t (d := d + 2) T (lo := 0) (hi := 9999) (by decide) h3
        have hu1' : ∀ Q', Cl (d + 4) 89 [.ref 1, .int 0, .int 9999] (yemb t) Q' ↔ Q' _ _ := hu1
        have I1 : yIt u1 l := yIt_ne I K1.2 (by decide) (by decide)
        obtain ⟨u2, hu2, I2, F2⟩ := m_72 (d := d + 4) I1 (by omega) (v := yI (yvm B (n - q) q 0))
        have c1 : (0 : Int32) ≤ yI (yvm B (n - q) q 0) := Int32.not_lt.mp (yI_nneg (by omega))
        refine ⟨u2, fun Q => ?_, yTk_ne T1 F2 (by decide) (by decide), I2, yKs_tr (yKs_q K1) (yKs_i F2)⟩
        show G (d + 5) 70 0 [some (.ref 32), some (.int dep), none] [] (yemb t) Q ↔ _
        simp only [s_70_0, s_70_1, s_70_2, s_70_3, s_70_4, s_70_5, s_70_6, s_70_7, s_70_8, s_70_9, s_70_10, s_70_11, s_70_12, s_70_13, s_70_14, s_70_15, s_70_16, s_70_17, s_70_18, s_70_19, s_70_20, s_70_21, s_70_22, s_70_23, s_70_24, s_70_25, s_70_26, s_70_27, s_70_28, s_70_29, s_70_30, s_70_31, s_70_32, s_70_33, s_70_34, s_70_35, s_70_36, s_70_37, s_70_38, s_70_39, s_70_40, s_70_41, s_70_42, s_70_43, s_70_44, s_70_45, s_70_46, s_70_47, s_70_48, s_70_49, s_70_50, s_70_51, s_70_52, s_70_53, s_70_54, s_70_55, s_70_56, s_70_57, s_70_58, s_70_59, s_70_60, s_70_61, s_70_62, s_70_63, s_70_64, s_70_65, s_70_66, s_70_67, s_70_68, s_70_69, s_70_70, yO_32, yO_1, g40, g13, g7, hu1', hu2, ifb, ifbn, Bool.false_eq_true, if_false, if_true, c1, ybo_1, Gk_v, Gk_n, xcat_nil, xcat_i, xcat_r, xcat_l, xcat_d, Nat.zero_le, Nat.reduceAdd, Nat.reduceLeDiff, true_and, and_true, ykl_i, ykl_r, ykl_n, ykl_l]
    · rw [h2] at g7
      rw [if_pos rfl]
      have hlt := yisw_lt (by decide) T.2.1 h2
      obtain ⟨u1, hu1, I1, F1⟩ := m_72 (d := d + 4) I (by omega) (v := -2)
      have T1 : yTk u1 n B q := yTk_ne T F1 (by decide) (by decide)
      obtain ⟨u2, hu2, T2, K2⟩ := yTk_adv (d := d + 3) T1
      rw [yisw_e (by decide) T.2.1 h2] at T2
      refine ⟨u2, fun Q => ?_, T2, yIt_ne I1 K2.2 (by decide) (by decide), yKs_tr (yKs_i F1) (yKs_p K2)⟩
      show G (d + 5) 70 0 [some (.ref 32), some (.int dep), none] [] (yemb t) Q ↔ _
      simp only [s_70_0, s_70_1, s_70_2, s_70_3, s_70_4, s_70_5, s_70_6, s_70_7, s_70_8, s_70_9, s_70_10, s_70_11, s_70_12, s_70_13, s_70_14, s_70_15, s_70_16, s_70_17, s_70_18, s_70_19, s_70_20, s_70_21, s_70_22, s_70_23, s_70_24, s_70_25, s_70_26, s_70_27, s_70_28, s_70_29, s_70_30, s_70_31, s_70_32, s_70_33, s_70_34, s_70_35, s_70_36, s_70_37, s_70_38, s_70_39, s_70_40, s_70_41, s_70_42, s_70_43, s_70_44, s_70_45, s_70_46, s_70_47, s_70_48, s_70_49, s_70_50, s_70_51, s_70_52, s_70_53, s_70_54, s_70_55, s_70_56, s_70_57, s_70_58, s_70_59, s_70_60, s_70_61, s_70_62, s_70_63, s_70_64, s_70_65, s_70_66, s_70_67, s_70_68, s_70_69, s_70_70, yO_32, yO_1, g40, g13, g7, hu1, hu2, ifb, ifbn, Bool.false_eq_true, if_false, if_true, ybo_1, Gk_v, Gk_n, xcat_nil, xcat_i, xcat_r, xcat_l, xcat_d, Nat.zero_le, Nat.reduceAdd, Nat.reduceLeDiff, true_and, and_true, ykl_i, ykl_r, ykl_n, ykl_l]
  · rw [h1] at g13
    rw [if_pos rfl]
    have hlt := yisw_lt (by decide) T.2.1 h1
    obtain ⟨u1, hu1, I1, F1⟩ := m_72 (d := d + 4) I (by omega) (v := -1)
    have T1 : yTk u1 n B q := yTk_ne T F1 (by decide) (by decide)
    obtain ⟨u2, hu2, T2, K2⟩ := yTk_adv (d := d + 3) T1
    rw [yisw_e (by decide) T.2.1 h1] at T2
    refine ⟨u2, fun Q => ?_, T2, yIt_ne I1 K2.2 (by decide) (by decide), yKs_tr (yKs_i F1) (yKs_p K2)⟩
    show G (d + 5) 70 0 [some (.ref 32), some (.int dep), none] [] (yemb t) Q ↔ _
    simp only [s_70_0, s_70_1, s_70_2, s_70_3, s_70_4, s_70_5, s_70_6, s_70_7, s_70_8, s_70_9, s_70_10, s_70_11, s_70_12, s_70_13, s_70_14, s_70_15, s_70_16, s_70_17, s_70_18, s_70_19, s_70_20, s_70_21, s_70_22, s_70_23, s_70_24, s_70_25, s_70_26, s_70_27, s_70_28, s_70_29, s_70_30, s_70_31, s_70_32, s_70_33, s_70_34, s_70_35, s_70_36, s_70_37, s_70_38, s_70_39, s_70_40, s_70_41, s_70_42, s_70_43, s_70_44, s_70_45, s_70_46, s_70_47, s_70_48, s_70_49, s_70_50, s_70_51, s_70_52, s_70_53, s_70_54, s_70_55, s_70_56, s_70_57, s_70_58, s_70_59, s_70_60, s_70_61, s_70_62, s_70_63, s_70_64, s_70_65, s_70_66, s_70_67, s_70_68, s_70_69, s_70_70, yO_32, yO_1, g40, g13, hu1, hu2, ifb, ifbn, Bool.false_eq_true, if_false, if_true, ybo_1, Gk_v, Gk_n, xcat_nil, xcat_i, xcat_r, xcat_l, xcat_d, Nat.zero_le, Nat.reduceAdd, Nat.reduceLeDiff, true_and, and_true, ykl_i, ykl_r, ykl_n, ykl_l]
end

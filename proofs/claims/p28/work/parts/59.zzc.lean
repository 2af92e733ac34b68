/-! ===== the class's scripts ===== -/
def ykI (k : Nat) : Int32 := if k = 6 then -1 else yI k
/-- the commands from lo up to hi stand as the tables say -/
abbrev yGc (t : yT) (lo hi : Nat) (T : yTb) : Prop := ∀ i, lo ≤ i → i < hi → t.A 35 i = yI (T.1 i) ∧ ((∀ j, j < ynb (T.1 i) → t.A 36 (5 * i + j) = yI (T.2.1 i j)) ∧ t.A 37 i = yI (T.2.2 i))
/-- the commands below c stay -/
abbrev yKw (t u : yT) (c : Nat) : Prop := (∀ j, (j < 3 ∨ 7 < j) → u.A 1 j = t.A 1 j) ∧ ((∀ j, j ≠ 6 → u.A 34 j = t.A 34 j) ∧ ((∀ i, i < c → u.A 35 i = t.A 35 i ∧ u.A 37 i = t.A 37 i) ∧ ((∀ x, x < 5 * c → u.A 36 x = t.A 36 x) ∧ yFr (fun a => a = 1 ∨ (34 ≤ a ∧ a ≤ 37)) t u)))
abbrev yKwe (t u : yT) : Prop := (∀ j, j < 3 → u.A 1 j = t.A 1 j) ∧ ((∀ j, j ≠ 6 → u.A 34 j = t.A 34 j) ∧ yFr (fun a => a = 1 ∨ (34 ≤ a ∧ a ≤ 37)) t u)
def yRg (run : xR → xS → Prop) (t : yT) (n : Nat) (B : Nat → Nat) (c : Nat) (r : yPg) : Prop := match r with
  | .inr (q', (c', T')) => ∃ u, run (.inl (some (.int 1))) (yemb u) ∧ (yTk u n B q' ∧ (u.A 34 6 = yI c' ∧ (yGc u c c' T' ∧ yKw t u c)))
  | .inl (e, a) => ∃ u, run (.inl (some (.int 0))) (yemb u) ∧ (u.A 1 8 = e ∧ (u.A 1 9 = yI a ∧ yKwe t u))
section
variable {t u v : yT} {c c' : Nat}
theorem yKw_tr (h : yKw t u c) (h' : yKw u v c') (hc : c ≤ c') : yKw t v c :=
  ⟨fun j hj => by rw [h'.1 j hj, h.1 j hj], fun j hj => by rw [h'.2.1 j hj, h.2.1 j hj], fun i hi => ⟨by rw [(h'.2.2.1 i (by omega)).1, (h.2.2.1 i hi).1], by rw [(h'.2.2.1 i (by omega)).2, (h.2.2.1 i hi).2]⟩, fun x hx => by rw [h'.2.2.2.1 x (by omega), h.2.2.2.1 x hx], h.2.2.2.2.trans h'.2.2.2.2 (fun a h => h.elim id id)⟩
theorem yKw_e (h : yKw t u c) (h' : yKwe u v) : yKwe t v :=
  ⟨fun j hj => by rw [h'.1 j hj, h.1 j (by omega)], fun j hj => by rw [h'.2.1 j hj, h.2.1 j hj], h.2.2.2.2.trans h'.2.2 (fun a h => h.elim id id)⟩
theorem yKw_rfl : yKw t t c := ⟨fun _ _ => rfl, fun _ _ => rfl, fun _ _ => ⟨rfl, rfl⟩, fun _ _ => rfl, yFr.rfl'⟩
theorem yKw_p (h : yKp t u) : yKw t u c := ⟨fun j hj => h.1 j (by omega), fun j _ => by rw [h.2.A (by decide)], fun i _ => ⟨by rw [h.2.A (by decide)], by rw [h.2.A (by decide)]⟩, fun x _ => by rw [h.2.A (by decide)], h.2.mono (fun a h => Or.inl h)⟩
theorem yKw_q (h : yKq t u) : yKw t u c := ⟨h.1, fun j _ => by rw [h.2.A (by decide)], fun i _ => ⟨by rw [h.2.A (by decide)], by rw [h.2.A (by decide)]⟩, fun x _ => by rw [h.2.A (by decide)], h.2.mono (fun a h => Or.inl h)⟩
theorem yKwe_rf {e a : Int32} : yKwe t (yrf t e a) := ⟨fun j hj => yrf_j (by omega) (by omega), fun j _ => by rw [yrf_fr.A (by decide)], yrf_fr.mono (fun a h => Or.inl h)⟩
theorem yRg_to {run1 run2 : xR → xS → Prop} {n : Nat} {B : Nat → Nat} {r : yPg} (h : ∀ r' s', run1 r' s' → run2 r' s') (H : yRg run1 t n B c r) : yRg run2 t n B c r := by
  rcases r with ⟨e, a⟩ | ⟨q', c', T'⟩
  · obtain ⟨u, h1, h2⟩ := H
    exact ⟨u, h _ _ h1, h2⟩
  · obtain ⟨u, h1, h2⟩ := H
    exact ⟨u, h _ _ h1, h2⟩
end
section
variable {d : Nat} {t : yT} {n : Nat} {B : Nat → Nat} {q c : Nat}
theorem yTk_35 {u : yT} {P : Nat → Prop} (T : yTk t n B q) (F : yFr P t u) (hP : ∀ a, P a → 3 ≤ a) : yTk u n B q := yTk_ne T F (fun h => by have := hP 1 h; omega) (fun h => by have := hP 2 h; omega)
theorem m_15 (T : yTk t n B q) : Ra (d + 5) 15 [.ref 34] (yemb t) (.inl (some (.int (ykI (ykh n B q))))) (yemb t) := by
  intro Q
  have g6 : ∀ Q', Cl (d + 4) 85 [.ref 1, .ref 1000106] (yemb t) Q' ↔ Q' _ _ := m_85 (d := d) T (i := 6) (by decide)
  have g9 : ∀ Q', Cl (d + 4) 85 [.ref 1, .ref 1000109] (yemb t) Q' ↔ Q' _ _ := m_85 (d := d) T (i := 9) (by decide)
  have g7 : ∀ Q', Cl (d + 4) 85 [.ref 1, .ref 1000107] (yemb t) Q' ↔ Q' _ _ := m_85 (d := d) T (i := 7) (by decide)
  have g10 : ∀ Q', Cl (d + 4) 85 [.ref 1, .ref 1000110] (yemb t) Q' ↔ Q' _ _ := m_85 (d := d) T (i := 10) (by decide)
  have g2 : ∀ Q', Cl (d + 4) 85 [.ref 1, .ref 1000102] (yemb t) Q' ↔ Q' _ _ := m_85 (d := d) T (i := 2) (by decide)
  have g8 : ∀ Q', Cl (d + 4) 85 [.ref 1, .ref 1000108] (yemb t) Q' ↔ Q' _ _ := m_85 (d := d) T (i := 8) (by decide)
  show G (d + 5) 15 0 [some (.ref 34)] [] (yemb t) Q ↔ _
  unfold ykh
  cases h6 : yisw n B q 6
  · rw [h6] at g6
    cases h9 : yisw n B q 9
    · rw [h9] at g9
      cases h7 : yisw n B q 7
      · rw [h7] at g7
        cases h10 : yisw n B q 10
        · rw [h10] at g10
          cases h2 : yisw n B q 2
          · rw [h2] at g2
            cases h8 : yisw n B q 8
            · rw [h8] at g8
              simp only [s_15_0, s_15_1, s_15_2, s_15_3, s_15_4, s_15_5, s_15_6, s_15_7, s_15_8, s_15_9, s_15_10, s_15_11, s_15_12, s_15_13, s_15_14, s_15_15, s_15_16, s_15_17, s_15_18, s_15_19, s_15_20, s_15_21, s_15_22, s_15_23, s_15_24, s_15_25, s_15_26, s_15_27, s_15_28, s_15_29, s_15_30, s_15_31, s_15_32, s_15_33, s_15_34, s_15_35, s_15_36, s_15_37, s_15_38, s_15_39, s_15_40, s_15_41, s_15_42, s_15_43, yO_34, yO_1, g6, g9, g7, g10, g2, g8, ifb, Bool.false_eq_true, if_false, Gk_v, Gk_n, xcat_nil, xcat_i, xcat_r, xcat_l, xcat_d, Nat.zero_le, Nat.reduceAdd, Nat.reduceLeDiff, true_and, and_true, ykl_i, ykl_r, ykl_n, ykl_l]
              exact Iff.rfl
            · rw [h8] at g8
              simp only [s_15_0, s_15_1, s_15_2, s_15_3, s_15_4, s_15_5, s_15_6, s_15_7, s_15_8, s_15_9, s_15_10, s_15_11, s_15_12, s_15_13, s_15_14, s_15_15, s_15_16, s_15_17, s_15_18, s_15_19, s_15_20, s_15_21, s_15_22, s_15_23, s_15_24, s_15_25, s_15_26, s_15_27, s_15_28, s_15_29, s_15_30, s_15_31, s_15_32, s_15_33, s_15_34, s_15_35, s_15_36, s_15_37, s_15_38, s_15_39, s_15_40, s_15_41, s_15_42, s_15_43, yO_34, yO_1, g6, g9, g7, g10, g2, g8, ifb, Bool.false_eq_true, if_false, if_true, Gk_v, Gk_n, xcat_nil, xcat_i, xcat_r, xcat_l, xcat_d, Nat.zero_le, Nat.reduceAdd, Nat.reduceLeDiff, true_and, and_true, ykl_i, ykl_r, ykl_n, ykl_l]
              exact Iff.rfl
          · rw [h2] at g2
            simp only [s_15_0, s_15_1, s_15_2, s_15_3, s_15_4, s_15_5, s_15_6, s_15_7, s_15_8, s_15_9, s_15_10, s_15_11, s_15_12, s_15_13, s_15_14, s_15_15, s_15_16, s_15_17, s_15_18, s_15_19, s_15_20, s_15_21, s_15_22, s_15_23, s_15_24, s_15_25, s_15_26, s_15_27, s_15_28, s_15_29, s_15_30, s_15_31, s_15_32, s_15_33, s_15_34, s_15_35, s_15_36, s_15_37, s_15_38, s_15_39, s_15_40, s_15_41, s_15_42, s_15_43, yO_34, yO_1, g6, g9, g7, g10, g2, ifb, Bool.false_eq_true, if_false, if_true, Gk_v, Gk_n, xcat_nil, xcat_i, xcat_r, xcat_l, xcat_d, Nat.zero_le, Nat.reduceAdd, Nat.reduceLeDiff, true_and, and_true, ykl_i, ykl_r, ykl_n, ykl_l]
            exact Iff.rfl
        · rw [h10] at g10
          simp only [s_15_0, s_15_1, s_15_2, s_15_3, s_15_4, s_15_5, s_15_6, s_15_7, s_15_8, s_15_9, s_15_10, s_15_11, s_15_12, s_15_13, s_15_14, s_15_15, s_15_16, s_15_17, s_15_18, s_15_19, s_15_20, s_15_21, s_15_22, s_15_23, s_15_24, s_15_25, s_15_26, s_15_27, s_15_28, s_15_29, s_15_30, s_15_31, s_15_32, s_15_33, s_15_34, s_15_35, s_15_36, s_15_37, s_15_38, s_15_39, s_15_40, s_15_41, s_15_42, s_15_43, yO_34, yO_1, g6, g9, g7, g10, ifb, Bool.false_eq_true, if_false, if_true, Gk_v, Gk_n, xcat_nil, xcat_i, xcat_r, xcat_l, xcat_d, Nat.zero_le, Nat.reduceAdd, Nat.reduceLeDiff, true_and, and_true, ykl_i, ykl_r, ykl_n, ykl_l]
          exact Iff.rfl
      · rw [h7] at g7
        simp only [s_15_0, s_15_1, s_15_2, s_15_3, s_15_4, s_15_5, s_15_6, s_15_7, s_15_8, s_15_9, s_15_10, s_15_11, s_15_12, s_15_13, s_15_14, s_15_15, s_15_16, s_15_17, s_15_18, s_15_19, s_15_20, s_15_21, s_15_22, s_15_23, s_15_24, s_15_25, s_15_26, s_15_27, s_15_28, s_15_29, s_15_30, s_15_31, s_15_32, s_15_33, s_15_34, s_15_35, s_15_36, s_15_37, s_15_38, s_15_39, s_15_40, s_15_41, s_15_42, s_15_43, yO_34, yO_1, g6, g9, g7, ifb, Bool.false_eq_true, if_false, if_true, Gk_v, Gk_n, xcat_nil, xcat_i, xcat_r, xcat_l, xcat_d, Nat.zero_le, Nat.reduceAdd, Nat.reduceLeDiff, true_and, and_true, ykl_i, ykl_r, ykl_n, ykl_l]
        exact Iff.rfl
    · rw [h9] at g9
      simp only [s_15_0, s_15_1, s_15_2, s_15_3, s_15_4, s_15_5, s_15_6, s_15_7, s_15_8, s_15_9, s_15_10, s_15_11, s_15_12, s_15_13, s_15_14, s_15_15, s_15_16, s_15_17, s_15_18, s_15_19, s_15_20, s_15_21, s_15_22, s_15_23, s_15_24, s_15_25, s_15_26, s_15_27, s_15_28, s_15_29, s_15_30, s_15_31, s_15_32, s_15_33, s_15_34, s_15_35, s_15_36, s_15_37, s_15_38, s_15_39, s_15_40, s_15_41, s_15_42, s_15_43, yO_34, yO_1, g6, g9, ifb, Bool.false_eq_true, if_false, if_true, Gk_v, Gk_n, xcat_nil, xcat_i, xcat_r, xcat_l, xcat_d, Nat.zero_le, Nat.reduceAdd, Nat.reduceLeDiff, true_and, and_true, ykl_i, ykl_r, ykl_n, ykl_l]
      exact Iff.rfl
  · rw [h6] at g6
    simp only [s_15_0, s_15_1, s_15_2, s_15_3, s_15_4, s_15_5, s_15_6, s_15_7, s_15_8, s_15_9, s_15_10, s_15_11, s_15_12, s_15_13, s_15_14, s_15_15, s_15_16, s_15_17, s_15_18, s_15_19, s_15_20, s_15_21, s_15_22, s_15_23, s_15_24, s_15_25, s_15_26, s_15_27, s_15_28, s_15_29, s_15_30, s_15_31, s_15_32, s_15_33, s_15_34, s_15_35, s_15_36, s_15_37, s_15_38, s_15_39, s_15_40, s_15_41, s_15_42, s_15_43, yO_34, yO_1, g6, ifb, if_true, Gk_v, Gk_n, xcat_nil, xcat_i, xcat_r, xcat_l, xcat_d, Nat.zero_le, Nat.reduceAdd, Nat.reduceLeDiff, true_and, and_true, ykl_i, ykl_r, ykl_n, ykl_l]
    exact Iff.rfl
theorem ynb_ok : ∀ k, k < 6 → ([5, 1, 1, 0, 1, 1] : List Int32).getD k 0 = yI (ynb k) := by decide
theorem gs_nof {k : Nat} (hk : k < 6) {ls : xL} {r : List Value} {σ : xS} {Q : xR → xS → Prop} : G d 16 18 ls (.int (yI k) :: .ref 1000001 :: r) σ Q ↔ G d 16 19 ls (.int (yI (ynb k)) :: r) σ Q := by
  refine gs_go f_16_18 ?_
  show xaldI 0 18 ls (.int (yI k) :: .ref 1000001 :: r) σ = _
  have h1 : ¬ (yI k < 0 ∨ 6 ≤ k) := fun h => h.elim (yI_nneg (by omega)) (by omega)
  have h3 : (yI k).toNatClampNeg = k := yI_clamp (by omega)
  unfold xaldI
  simp only [show xRd σ 1000001 = some (.inl (0, (6, .inl (fun j => ([5, 1, 1, 0, 1, 1] : List Int32).getD j 0)))) from rfl, h3, h1, true_and, not_false_eq_true, if_true, ynb_ok k hk]
theorem ynb_le : ∀ k, ynb k ≤ 5 := by
  intro k
  unfold ynb
  split
  · decide
  · split <;> decide
theorem l_16 {k : Nat} (hk : k < 6) (hc : c < 60) : ∀ m j q r (t : yT) (l4 : Option Value), j + m = ynb k → yTk t n B q → t.A 35 c = yI k →
    (∀ e a, yrn n B (ynlo k) (ynhi k) m j q r = .inl (e, a) → ∃ u, Ga (d + 3) 16 12 [some (.ref 34), some (.int (yI c)), some (.int (yb (decide (k = 5)))), some (.int (yI j)), l4] [] (yemb t) (.inl (some (.int 0))) (yemb u) ∧ (u.A 1 8 = e ∧ (u.A 1 9 = yI a ∧ yKwe t u)))
    ∧ (∀ q' r', yrn n B (ynlo k) (ynhi k) m j q r = .inr (q', r') → (∀ i, i < j → t.A 36 (5 * c + i) = yI (r i)) → ∃ u, Ga (d + 3) 16 12 [some (.ref 34), some (.int (yI c)), some (.int (yb (decide (k = 5)))), some (.int (yI j)), l4] [] (yemb t) (.inl (some (.int 1))) (yemb u) ∧ (yTk u n B q' ∧ ((∀ i, i < ynb k → u.A 36 (5 * c + i) = yI (r' i)) ∧ ((∀ x, x < 5 * c → u.A 36 x = t.A 36 x) ∧ ((∀ j, (j < 3 ∨ 7 < j) → u.A 1 j = t.A 1 j) ∧ yFr (fun a => a = 1 ∨ a = 36) t u))))) := by
  have hb5 := ynb_le k
  have i1 : yix (yI c) 60 := yix_I (by omega) (by omega)
  have c1 : (yI c).toNatClampNeg = c := yI_clamp (by omega)
  intro m
  induction m with
  | zero =>
    intro j q r t l4 hj T hK
    refine ⟨fun e a h => (by cases h), fun q' r' h hr => ?_⟩
    cases h
    obtain rfl : j = ynb k := by omega
    have c2 : yI (ynb k) ≤ yI (ynb k) := Int32.le_refl _
    refine ⟨t, fun Q => ?_, T, hr, fun _ _ => rfl, fun _ _ => rfl, yFr.rfl'⟩
    rw [s_16_12]
    simp only [s_16_13, s_16_14, s_16_15 yO_34, s_16_16, s_16_17 yA_35, yn_35, i1, c1, hK, gs_nof hk, s_16_19, c2, if_true, s_16_49, s_16_50, ybo_1, Gk_v, Gk_n, xcat_nil, xcat_i, xcat_r, xcat_l, xcat_d, Nat.zero_le, Nat.reduceAdd, Nat.reduceLeDiff, true_and, and_true, ykl_i, ykl_r, ykl_n, ykl_l]
  | succ m ih =>
    intro j q r t l4 hj T hK
    have c2 : ¬ yI (ynb k) ≤ yI j := fun h => absurd ((yI_le (by omega) (by omega)).mp h) (by omega)
    have cm1 : ¬ (0 : Int32) ≤ -1 := by decide
    have e5 : (5 : Int32) * yI c = yI (5 * c) := yI_mul
    have e6 : yI (5 * c) + yI j = yI (5 * c + j) := yI_add
    have i2 : yix (yI (5 * c + j)) 300 := yix_I (by omega) (by omega)
    have c3 : (yI (5 * c + j)).toNatClampNeg = 5 * c + j := yI_clamp (by omega)
    have h7 : yI j + 1 = yI (j + 1) := yI_add
    have hlo : ynlo k < 10000 := by unfold ynlo; split <;> decide
    have hhi : ynhi k < 10000 := by unfold ynhi; split <;> decide
    -- the call of takeNumber
    have call : ∀ Q, G (d + 3) 16 12 [some (.ref 34), some (.int (yI c)), some (.int (yb (decide (k = 5)))), some (.int (yI j)), l4] [] (yemb t) Q ↔ Cl (d + 2) 89 [.ref 1, .int (yI (ynlo k)), .int (yI (ynhi k))] (yemb t) (Gk (d + 3) 16 32 [some (.ref 34), some (.int (yI c)), some (.int (yb (decide (k = 5)))), some (.int (yI j)), l4] [] Q) := by
      intro Q
      rw [s_16_12]
      by_cases h5 : k = 5
      · subst h5
        simp only [s_16_13, s_16_14, s_16_15 yO_34, s_16_16, s_16_17 yA_35, yn_35, i1, c1, hK, gs_nof hk, s_16_19, c2, if_false, s_16_20, s_16_21 yO_34, s_16_22, s_16_23, ifb, decide_true, if_true, s_16_24, s_16_25, s_16_27, s_16_28, s_16_29, s_16_30, s_16_32 yO_1, Gk_v, Gk_n, xcat_nil, xcat_i, xcat_r, xcat_l, xcat_d, Nat.zero_le, Nat.reduceAdd, Nat.reduceLeDiff, true_and, and_true, ykl_i, ykl_r, ykl_n, ykl_l]
        exact Iff.rfl
      · have ed : decide (k = 5) = false := decide_eq_false h5
        have el : ynlo k = 0 := by rw [ynlo, if_neg h5]
        have eh : ynhi k = 9999 := by rw [ynhi, if_neg h5]
        rw [ed, el, eh]
        simp only [s_16_13, s_16_14, s_16_15 yO_34, s_16_16, s_16_17 yA_35, yn_35, i1, c1, hK, gs_nof hk, s_16_19, c2, if_false, s_16_20, s_16_21 yO_34, s_16_22, s_16_23, ifb, Bool.false_eq_true, s_16_26, s_16_27, s_16_28, s_16_31, s_16_32 yO_1, Gk_v, Gk_n, xcat_nil, xcat_i, xcat_r, xcat_l, xcat_d, Nat.zero_le, Nat.reduceAdd, Nat.reduceLeDiff, true_and, and_true, ykl_i, ykl_r, ykl_n, ykl_l]
        exact Iff.rfl
    rw [yrn]
    cases h1 : ynum n B q (ynlo k) (ynhi k)
    · rw [if_neg (by decide)]
      have g := m_89f (d := d) T hlo hhi h1
      refine ⟨fun e a h => ?_, fun q' r' h => by cases h⟩
      cases h
      refine ⟨_, fun Q => ?_, yrf_8, yrf_9, yKwe_rf⟩
      refine (call Q).trans ((g _).trans ?_)
      simp only [s_16_33, s_16_34, s_16_35, cm1, if_false, s_16_36, s_16_37, ybo_0, Gk_v, Gk_n, xcat_nil, xcat_i, xcat_r, xcat_l, xcat_d, Nat.zero_le, Nat.reduceAdd, Nat.reduceLeDiff, true_and, and_true, ykl_i, ykl_r, ykl_n, ykl_l]
    · rw [if_pos rfl]
      obtain ⟨u1, hu1, T1, -, K1⟩ := m_89t (d := d) T hhi h1
      have hv := ynv_lt h1
      have hu1' : ∀ Q', Cl (d + 2) 89 [.ref 1, .int (yI (ynlo k)), .int (yI (ynhi k))] (yemb t) Q' ↔ Q' (.inl (some (.int (yI (ynv n B q))))) (yemb u1) := hu1
      have T1' : yTk u1 n B (ynq n B q) := T1
      generalize ynq n B q = q1 at *
      generalize ynv n B q = x at *
      have cx : (0 : Int32) ≤ yI x := Int32.not_lt.mp (yI_nneg (by omega))
      have F2 : yFr (fun a => a = 36) u1 (u1.s1 36 (5 * c + j) (yI x)) := yFr_s1 rfl
      have T2 : yTk (u1.s1 36 (5 * c + j) (yI x)) n B q1 := yTk_35 T1' F2 (fun a (h : a = 36) => by omega)
      have hK2 : (u1.s1 36 (5 * c + j) (yI x)).A 35 c = yI k := by rw [ys1_ne (by decide), K1.2.A (by decide)]; exact hK
      obtain ⟨h2, h3⟩ := ih (j + 1) q1 (yup r j x) (u1.s1 36 (5 * c + j) (yI x)) (some (.int (yI x))) (by omega) T2 hK2
      have step : ∀ Q, G (d + 3) 16 12 [some (.ref 34), some (.int (yI c)), some (.int (yb (decide (k = 5)))), some (.int (yI j)), l4] [] (yemb t) Q ↔ G (d + 3) 16 12 [some (.ref 34), some (.int (yI c)), some (.int (yb (decide (k = 5)))), some (.int (yI (j + 1))), some (.int (yI x))] [] (yemb (u1.s1 36 (5 * c + j) (yI x))) Q := by
        intro Q
        refine (call Q).trans ((hu1' _).trans ?_)
        simp only [s_16_33, s_16_34, s_16_35, cx, if_true, s_16_38, s_16_39 yO_34, s_16_40, s_16_41, s_16_42, s_16_43, s_16_44, s_16_45, s_16_46 yA_36, yn_36, e5, e6, i2, c3, s_16_47, h7, s_16_48, Gk_v, Gk_n, xcat_nil, xcat_i, xcat_r, xcat_l, xcat_d, Nat.zero_le, Nat.reduceAdd, Nat.reduceLeDiff, true_and, and_true, ykl_i, ykl_r, ykl_n, ykl_l]
      have F12 : yFr (fun a => a = 1 ∨ a = 36) t (u1.s1 36 (5 * c + j) (yI x)) := K1.2.trans F2 (fun a h => h)
      refine ⟨fun e a h => ?_, fun q' r' h hr => ?_⟩
      · obtain ⟨u, hu, x8, x9, xe⟩ := h2 e a h
        refine ⟨u, fun Q => (step Q).trans (hu Q), x8, x9, ⟨fun i hi => ?_, fun i hi => ?_, F12.trans xe.2.2 (fun a h => by omega)⟩⟩
        · rw [xe.1 i hi, F2.A (by decide), K1.1 i (by omega)]
        · rw [xe.2.1 i hi, F12.A (by decide)]
      · obtain ⟨u, hu, Tu, hn, hx, hj1, Fu⟩ := h3 q' r' h (fun i hi => by
          rw [ys1_upd]
          by_cases e : i = j
          · rw [e, yupd_same, yup_same]
          · rw [yupd_ne (by omega), yup_ne e, K1.2.A (by decide)]
            exact hr i (by omega))
        refine ⟨u, fun Q => (step Q).trans (hu Q), Tu, hn, fun y hy => ?_, fun i hi => ?_, F12.trans Fu (fun a h => h.elim id id)⟩
        · rw [hx y hy, ys1_upd, yupd_ne (by omega), K1.2.A (by decide)]
        · rw [hj1 i hi, F2.A (by decide), K1.1 i hi]
theorem m_16 {k : Nat} (hk : k < 6) (hc : c < 60) {r : Nat → Nat} (T : yTk t n B q) (hK : t.A 35 c = yI k) :
    (∀ e a, yrn n B (ynlo k) (ynhi k) (ynb k) 0 q r = .inl (e, a) → ∃ u, Ra (d + 3) 16 [.ref 34, .int (yI c)] (yemb t) (.inl (some (.int 0))) (yemb u) ∧ (u.A 1 8 = e ∧ (u.A 1 9 = yI a ∧ yKwe t u)))
    ∧ (∀ q' r', yrn n B (ynlo k) (ynhi k) (ynb k) 0 q r = .inr (q', r') → ∃ u, Ra (d + 3) 16 [.ref 34, .int (yI c)] (yemb t) (.inl (some (.int 1))) (yemb u) ∧ (yTk u n B q' ∧ ((∀ i, i < ynb k → u.A 36 (5 * c + i) = yI (r' i)) ∧ ((∀ x, x < 5 * c → u.A 36 x = t.A 36 x) ∧ ((∀ j, (j < 3 ∨ 7 < j) → u.A 1 j = t.A 1 j) ∧ yFr (fun a => a = 1 ∨ a = 36) t u))))) := by
  obtain ⟨h1, h2⟩ := l_16 (d := d) (n := n) (B := B) hk hc (ynb k) 0 q r t none (Nat.zero_add _) T hK
  have i1 : yix (yI c) 60 := yix_I (by omega) (by omega)
  have c1 : (yI c).toNatClampNeg = c := yI_clamp (by omega)
  have start : ∀ Q, Cl (d + 3) 16 [.ref 34, .int (yI c)] (yemb t) Q ↔ G (d + 3) 16 12 [some (.ref 34), some (.int (yI c)), some (.int (yb (decide (k = 5)))), some (.int (yI 0)), none] [] (yemb t) Q := by
    intro Q
    show G (d + 3) 16 0 [some (.ref 34), some (.int (yI c)), none, none, none] [] (yemb t) Q ↔ _
    by_cases h5 : k = 5
    · subst h5
      have c5 : (yI 5 : Int32) = 5 := rfl
      simp only [s_16_0, s_16_1 yO_34, s_16_2, s_16_3 yA_35, yn_35, i1, c1, hK, s_16_4, s_16_5, c5, ne_eq, not_true_eq_false, if_false, s_16_6, s_16_7, s_16_9, s_16_10, s_16_11, decide_true, Gk_v, Gk_n, xcat_nil, xcat_i, xcat_r, xcat_l, xcat_d, Nat.zero_le, Nat.reduceAdd, Nat.reduceLeDiff, true_and, and_true, ykl_i, ykl_r, ykl_n, ykl_l]
      exact Iff.rfl
    · have c5 : ¬ yI k = 5 := fun h => h5 ((yI_inj (m := 5) (by omega) (by decide)).mp h)
      rw [decide_eq_false h5]
      simp only [s_16_0, s_16_1 yO_34, s_16_2, s_16_3 yA_35, yn_35, i1, c1, hK, s_16_4, s_16_5, c5, ne_eq, not_false_eq_true, if_true, s_16_8, s_16_9, s_16_10, s_16_11, Gk_v, Gk_n, xcat_nil, xcat_i, xcat_r, xcat_l, xcat_d, Nat.zero_le, Nat.reduceAdd, Nat.reduceLeDiff, true_and, and_true, ykl_i, ykl_r, ykl_n, ykl_l]
      exact Iff.rfl
  refine ⟨fun e a h => ?_, fun q' r' h => ?_⟩
  · obtain ⟨u, hu, hx⟩ := h1 e a h
    exact ⟨u, fun Q => (start Q).trans (hu Q), hx⟩
  · obtain ⟨u, hu, hx⟩ := h2 q' r' h (fun i hi => absurd hi (Nat.not_lt_zero _))
    exact ⟨u, fun Q => (start Q).trans (hu Q), hx⟩
end

/-! ===== the class's sums: items ===== -/
abbrev yIt (t : yT) (l : List Int32) : Prop := l.length ≤ 600 ∧ (t.A 32 2 = yI l.length ∧ ∀ i, i < l.length → t.A 33 i = l.getD i 0)
theorem yIt_ne {t u : yT} {l : List Int32} {P : Nat → Prop} (I : yIt t l) (F : yFr P t u) (h1 : ¬ P 32) (h2 : ¬ P 33) : yIt u l := by
  refine ⟨I.1, ?_, fun i hi => ?_⟩
  · rw [F.A h1]; exact I.2.1
  · rw [F.A h2]; exact I.2.2 i hi
theorem yTk_ne {t u : yT} {n : Nat} {B : Nat → Nat} {q : Nat} {P : Nat → Prop} (T : yTk t n B q) (F : yFr P t u) (h1 : ¬ P 1) (h2 : ¬ P 2) : yTk u n B q := by
  obtain ⟨⟨x1, x2, x3⟩, x4, x5, x6, x7, x8⟩ := T
  refine ⟨⟨x1, ?_, fun i hi => ?_⟩, x4, ?_, ?_, ?_, ?_⟩
  · rw [F.A h1]; exact x2
  · rw [F.A h2]; exact x3 i hi
  · rw [F.A h1]; exact x5
  · rw [F.A h1]; exact x6
  · rw [F.A h1]; exact x7
  · rw [F.A h1]; exact x8
section
variable {d : Nat} {n : Nat} {B : Nat → Nat}
theorem m_72 {t : yT} {l : List Int32} (I : yIt t l) (h : l.length < 600) {v : Int32} : ∃ u, Ra d 72 [.ref 32, .int v] (yemb t) (.inl none) (yemb u) ∧ (yIt u (l ++ [v]) ∧ yFr (fun a => a = 32 ∨ a = 33) t u) := by
  have h1 : ¬ (600 : Int32) ≤ yI l.length := fun h' => absurd ((yI_le (n := 600) (by decide) (by omega)).mp h') (by omega)
  have h2 : yix (yI l.length) 600 := yix_I (by omega) (by omega)
  have h3 : (yI l.length).toNatClampNeg = l.length := yI_clamp (by omega)
  have h4 : yI l.length + 1 = yI (l.length + 1) := yI_add
  have g1 : (t.s1 33 l.length v).A 32 2 = yI l.length := by
    rw [ys1_ne (by decide)]
    exact I.2.1
  refine ⟨(t.s1 33 l.length v).s1 32 2 (yI (l.length + 1)), fun Q => ?_, ⟨?_, ?_, fun i hi => ?_⟩, (yFr_s1 (P := fun a => a = 33) rfl).trans (yFr_s1 (P := fun a => a = 32) rfl) (fun a h => by omega)⟩
  · show G d 72 0 [some (.ref 32), some (.int v)] [] (yemb t) Q ↔ _
    simp only [s_72_0, s_72_1, s_72_2, s_72_3, s_72_4, s_72_5, s_72_6, s_72_7, s_72_8, s_72_9, s_72_10, s_72_11, s_72_11i, s_72_12, s_72_13, s_72_14, s_72_15, s_72_16, yO_32, I.2.1, h1, if_false, yA_33, yn_33, h2, h3, g1, h4, Gk_v, Gk_n, xcat_nil, xcat_i, xcat_r, xcat_l, xcat_d, Nat.zero_le, Nat.reduceAdd, Nat.reduceLeDiff, true_and, and_true, ykl_i, ykl_r, ykl_n, ykl_l]
  · rw [List.length_append]
    show l.length + 1 ≤ 600
    omega
  · rw [List.length_append]
    exact ys1_same
  · rw [List.length_append] at hi
    have hi' : i < l.length + 1 := hi
    rw [ys1_ne (by decide), ys1_upd]
    by_cases e : i = l.length
    · rw [e, yupd_same, List.getD_eq_getElem?_getD, List.getElem?_append_right (Nat.le_refl _), Nat.sub_self]
      rfl
    · rw [yupd_ne e, I.2.2 i (by omega), List.getD_eq_getElem?_getD, List.getD_eq_getElem?_getD, List.getElem?_append_left (by omega)]
theorem m_71 {t : yT} {l : List Int32} (I : yIt t l) {p : Int32} (h : l.length + (ypn p).length ≤ 600) : ∃ u, Ra (d + 1) 71 [.ref 32, .int p] (yemb t) (.inl none) (yemb u) ∧ (yIt u (l ++ ypn p) ∧ yFr (fun a => a = 32 ∨ a = 33) t u) := by
  by_cases h0 : p = 0
  · refine ⟨t, fun Q => ?_, ?_, yFr.rfl'⟩
    · show G (d + 1) 71 0 [some (.ref 32), some (.int p)] [] (yemb t) Q ↔ _
      simp only [s_71_0, s_71_1, s_71_2, s_71_3, s_71_4, s_71_5, h0, if_true, Gk_v, Gk_n, xcat_nil, xcat_i, xcat_r, xcat_l, xcat_d, Nat.zero_le, Nat.reduceAdd, Nat.reduceLeDiff, true_and, and_true, ykl_i, ykl_r, ykl_n, ykl_l]
    · have e : ypn p = [] := by rw [ypn, if_pos h0]
      rw [e, List.append_nil]
      exact I
  · have e : ypn p = [p] := by rw [ypn, if_neg h0]
    rw [e] at h ⊢
    have h' : l.length + 1 ≤ 600 := h
    obtain ⟨u, hu, Iu, Fu⟩ := m_72 (d := d) I (by omega) (v := p)
    refine ⟨u, fun Q => ?_, Iu, Fu⟩
    show G (d + 1) 71 0 [some (.ref 32), some (.int p)] [] (yemb t) Q ↔ _
    simp only [s_71_0, s_71_1, s_71_2, s_71_3, s_71_4, s_71_5, yO_32, h0, if_false, hu, Gk_v, Gk_n, xcat_nil, xcat_i, xcat_r, xcat_l, xcat_d, Nat.zero_le, Nat.reduceAdd, Nat.reduceLeDiff, true_and, and_true, ykl_i, ykl_r, ykl_n, ykl_l]
theorem m_69 {t : yT} {q : Nat} (T : yTk t n B q) : Ra (d + 1) 69 [.ref 32] (yemb t) (.inl (some (.int (yopc n B q)))) (yemb t) := by
  intro Q
  have g1 : ∀ Q', Cl d 84 [.ref 1, .int 43] (yemb t) Q' ↔ Q' (.inl (some (.int (yb (yat n B q 43))))) (yemb t) := m_84 (d := d) T (c := 43) (by decide) (by decide) (by decide)
  have g2 : ∀ Q', Cl d 84 [.ref 1, .int 45] (yemb t) Q' ↔ Q' (.inl (some (.int (yb (yat n B q 45))))) (yemb t) := m_84 (d := d) T (c := 45) (by decide) (by decide) (by decide)
  have g3 : ∀ Q', Cl d 84 [.ref 1, .int 42] (yemb t) Q' ↔ Q' (.inl (some (.int (yb (yat n B q 42))))) (yemb t) := m_84 (d := d) T (c := 42) (by decide) (by decide) (by decide)
  have g4 : ∀ Q', Cl d 84 [.ref 1, .int 47] (yemb t) Q' ↔ Q' (.inl (some (.int (yb (yat n B q 47))))) (yemb t) := m_84 (d := d) T (c := 47) (by decide) (by decide) (by decide)
  show G (d + 1) 69 0 [some (.ref 32)] [] (yemb t) Q ↔ _
  unfold yopc
  cases h1 : yat n B q 43
  · rw [h1] at g1
    cases h2 : yat n B q 45
    · rw [h2] at g2
      cases h3 : yat n B q 42
      · rw [h3] at g3
        cases h4 : yat n B q 47
        · rw [h4] at g4
          simp only [s_69_0, s_69_1, s_69_2, s_69_3, s_69_4, s_69_5, s_69_6, s_69_7, s_69_8, s_69_9, s_69_10, s_69_11, s_69_12, s_69_13, s_69_14, s_69_15, s_69_16, s_69_17, s_69_18, s_69_19, s_69_20, s_69_21, s_69_22, s_69_23, s_69_24, s_69_25, s_69_26, s_69_27, s_69_28, s_69_29, yO_32, yO_1, g1, g2, g3, g4, ifb, Bool.false_eq_true, if_false, Gk_v, Gk_n, xcat_nil, xcat_i, xcat_r, xcat_l, xcat_d, Nat.zero_le, Nat.reduceAdd, Nat.reduceLeDiff, true_and, and_true, ykl_i, ykl_r, ykl_n, ykl_l]
        · rw [h4] at g4
          simp only [s_69_0, s_69_1, s_69_2, s_69_3, s_69_4, s_69_5, s_69_6, s_69_7, s_69_8, s_69_9, s_69_10, s_69_11, s_69_12, s_69_13, s_69_14, s_69_15, s_69_16, s_69_17, s_69_18, s_69_19, s_69_20, s_69_21, s_69_22, s_69_23, s_69_24, s_69_25, s_69_26, s_69_27, s_69_28, s_69_29, yO_32, yO_1, g1, g2, g3, g4, ifb, Bool.false_eq_true, if_false, if_true, Gk_v, Gk_n, xcat_nil, xcat_i, xcat_r, xcat_l, xcat_d, Nat.zero_le, Nat.reduceAdd, Nat.reduceLeDiff, true_and, and_true, ykl_i, ykl_r, ykl_n, ykl_l]
      · rw [h3] at g3
        simp only [s_69_0, s_69_1, s_69_2, s_69_3, s_69_4, s_69_5, s_69_6, s_69_7, s_69_8, s_69_9, s_69_10, s_69_11, s_69_12, s_69_13, s_69_14, s_69_15, s_69_16, s_69_17, s_69_18, s_69_19, s_69_20, s_69_21, s_69_22, s_69_23, s_69_24, s_69_25, s_69_26, s_69_27, s_69_28, s_69_29, yO_32, yO_1, g1, g2, g3, ifb, Bool.false_eq_true, if_false, if_true, Gk_v, Gk_n, xcat_nil, xcat_i, xcat_r, xcat_l, xcat_d, Nat.zero_le, Nat.reduceAdd, Nat.reduceLeDiff, true_and, and_true, ykl_i, ykl_r, ykl_n, ykl_l]
    · rw [h2] at g2
      simp only [s_69_0, s_69_1, s_69_2, s_69_3, s_69_4, s_69_5, s_69_6, s_69_7, s_69_8, s_69_9, s_69_10, s_69_11, s_69_12, s_69_13, s_69_14, s_69_15, s_69_16, s_69_17, s_69_18, s_69_19, s_69_20, s_69_21, s_69_22, s_69_23, s_69_24, s_69_25, s_69_26, s_69_27, s_69_28, s_69_29, yO_32, yO_1, g1, g2, ifb, Bool.false_eq_true, if_false, if_true, Gk_v, Gk_n, xcat_nil, xcat_i, xcat_r, xcat_l, xcat_d, Nat.zero_le, Nat.reduceAdd, Nat.reduceLeDiff, true_and, and_true, ykl_i, ykl_r, ykl_n, ykl_l]
  · rw [h1] at g1
    simp only [s_69_0, s_69_1, s_69_2, s_69_3, s_69_4, s_69_5, s_69_6, s_69_7, s_69_8, s_69_9, s_69_10, s_69_11, s_69_12, s_69_13, s_69_14, s_69_15, s_69_16, s_69_17, s_69_18, s_69_19, s_69_20, s_69_21, s_69_22, s_69_23, s_69_24, s_69_25, s_69_26, s_69_27, s_69_28, s_69_29, yO_32, yO_1, g1, ifb, if_true, Gk_v, Gk_n, xcat_nil, xcat_i, xcat_r, xcat_l, xcat_d, Nat.zero_le, Nat.reduceAdd, Nat.reduceLeDiff, true_and, and_true, ykl_i, ykl_r, ykl_n, ykl_l]
end
/-- items come of bytes -/
abbrev ylen (n : Nat) (fac : Nat → List Int32 → yPs) : Prop := ∀ q l q' l', q ≤ n → fac q l = .inr (q', l') → l'.length + q ≤ l.length + q'

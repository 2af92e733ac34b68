/-! ===== the class's reader: what it asks and takes ===== -/
section
variable {d : Nat} {n : Nat} {B : Nat → Nat}
theorem yb_dec {p : Prop} [Decidable p] (h : p) : yb (decide p) = 1 := by rw [decide_eq_true h]; rfl
theorem yb_dec0 {p : Prop} [Decidable p] (h : ¬ p) : yb (decide p) = 0 := by rw [decide_eq_false h]; rfl
theorem m_83 {t : yT} {q : Nat} (T : yTk t n B q) : Ra d 83 [.ref 1] (yemb t) (.inl (some (.int (yb (decide (n ≤ q)))))) (yemb t) := by
  intro Q
  have hk := T.2.2.2.1
  show G d 83 0 [some (.ref 1)] [] (yemb t) Q ↔ _
  by_cases h : n ≤ q
  · have k0 : ytkind n B q = 0 := by rw [ytkind, if_pos h]
    rw [k0] at hk
    have hk' : t.A 1 3 = 0 := hk
    rw [yb_dec h]
    simp only [s_83_0, s_83_1, s_83_2, s_83_3, s_83_4, s_83_5, s_83_6, yO_1, hk', ne_eq, not_true_eq_false, if_false, ybo_1, Gk_v, Gk_n, xcat_nil, xcat_i, xcat_r, xcat_l, xcat_d, Nat.zero_le, Nat.reduceAdd, Nat.reduceLeDiff, true_and, and_true, ykl_i, ykl_r, ykl_n, ykl_l]
  · have k0 : ¬ ytkind n B q = 0 := by
      rw [ytkind, if_neg h]
      split
      · decide
      · split <;> decide
    have hle := ytkind_le (n := n) (B := B) (q := q)
    have hk' : ¬ yI (ytkind n B q) = 0 := fun h' => k0 ((yI_inj (m := 0) (by omega) (by decide)).mp h')
    rw [yb_dec0 h]
    simp only [s_83_0, s_83_1, s_83_2, s_83_3, s_83_4, s_83_5, s_83_6, yO_1, hk, hk', ne_eq, not_false_eq_true, if_true, ybo_0, Gk_v, Gk_n, xcat_nil, xcat_i, xcat_r, xcat_l, xcat_d, Nat.zero_le, Nat.reduceAdd, Nat.reduceLeDiff, true_and, and_true, ykl_i, ykl_r, ykl_n, ykl_l]
/-- a sign is what is neither digit nor letter -/
theorem m_84 {t : yT} {q c : Nat} (T : yTk t n B q) (hc : c < 128) (hd : ydg c = false) (hl : yle c = false) : Ra d 84 [.ref 1, .int (yI c)] (yemb t) (.inl (some (.int (yb (decide (q < n ∧ B q = c)))))) (yemb t) := by
  intro Q
  obtain ⟨X, hq, h4, hk, h5, -⟩ := T
  have h600 := X.1
  have hle := ytkind_le (n := n) (B := B) (q := q)
  show G d 84 0 [some (.ref 1), some (.int (yI c))] [] (yemb t) Q ↔ _
  by_cases h : q < n
  · obtain ⟨hb, hv⟩ := X.2.2 q h
    have h1 : ¬ yI n ≤ yI q := fun h' => absurd ((yI_le (by omega) (by omega)).mp h') (by omega)
    have h2 : yix (yI q) 600 := yix_I (by omega) (by omega)
    have h3 : (yI q).toNatClampNeg = q := yI_clamp (by omega)
    have he := ysb_eq hb hc
    by_cases e : B q = c
    · have k3 : ytkind n B q = 3 := by rw [ytkind, if_neg (by omega), e, hd, hl]; rfl
      rw [k3] at hk
      have hk' : t.A 1 3 = 3 := hk
      rw [yb_dec ⟨h, e⟩]
      simp only [s_84_0, s_84_1, s_84_2, s_84_3, s_84_4, s_84_5, s_84_6, s_84_7, s_84_8, s_84_9, s_84_10, s_84_11, s_84_12, s_84_13, s_84_14, s_84_15, s_84_16, s_84_17, s_84_18, s_84_19, yO_1, hk', h4, X.2.1, h1, if_false, yA_2, yn_2, h2, h3, hv, he.mpr e, ne_eq, not_true_eq_false, ybo_1, Gk_v, Gk_n, xcat_nil, xcat_i, xcat_r, xcat_l, xcat_d, Nat.zero_le, Nat.reduceAdd, Nat.reduceLeDiff, true_and, and_true, ykl_i, ykl_r, ykl_n, ykl_l]
    · have hne : ¬ ysb (B q) = yI c := fun h' => e (he.mp h')
      rw [yb_dec0 (fun h' => e h'.2)]
      by_cases k3 : yI (ytkind n B q) = 3
      · simp only [s_84_0, s_84_1, s_84_2, s_84_3, s_84_4, s_84_5, s_84_6, s_84_7, s_84_8, s_84_9, s_84_10, s_84_11, s_84_12, s_84_13, s_84_14, s_84_15, s_84_16, s_84_17, s_84_18, s_84_19, yO_1, hk, k3, h4, X.2.1, h1, if_false, if_true, yA_2, yn_2, h2, h3, hv, hne, ne_eq, not_true_eq_false, not_false_eq_true, ybo_0, Gk_v, Gk_n, xcat_nil, xcat_i, xcat_r, xcat_l, xcat_d, Nat.zero_le, Nat.reduceAdd, Nat.reduceLeDiff, true_and, and_true, ykl_i, ykl_r, ykl_n, ykl_l]
      · simp only [s_84_0, s_84_1, s_84_2, s_84_3, s_84_4, s_84_5, s_84_6, s_84_7, s_84_8, s_84_9, s_84_10, s_84_11, s_84_12, s_84_13, s_84_14, s_84_15, s_84_16, s_84_17, s_84_18, s_84_19, yO_1, hk, k3, if_true, ne_eq, not_false_eq_true, ybo_0, Gk_v, Gk_n, xcat_nil, xcat_i, xcat_r, xcat_l, xcat_d, Nat.zero_le, Nat.reduceAdd, Nat.reduceLeDiff, true_and, and_true, ykl_i, ykl_r, ykl_n, ykl_l]
  · have k0 : ytkind n B q = 0 := by rw [ytkind, if_pos (by omega)]
    rw [k0] at hk
    have hk' : t.A 1 3 = 0 := hk
    have c1 : ¬ (0 : Int32) = 3 := by decide
    rw [yb_dec0 (fun h' => h h'.1)]
    simp only [s_84_0, s_84_1, s_84_2, s_84_3, s_84_4, s_84_5, s_84_6, s_84_7, s_84_8, s_84_9, s_84_10, s_84_11, s_84_12, s_84_13, s_84_14, s_84_15, s_84_16, s_84_17, s_84_18, s_84_19, yO_1, hk', c1, if_true, ne_eq, not_false_eq_true, ybo_0, Gk_v, Gk_n, xcat_nil, xcat_i, xcat_r, xcat_l, xcat_d, Nat.zero_le, Nat.reduceAdd, Nat.reduceLeDiff, true_and, and_true, ykl_i, ykl_r, ykl_n, ykl_l]
theorem l_85 {t : yT} {q i : Nat} (T : yTk t n B q) (hi : i < 14) (hq : q + ywl i ≤ n) : ∀ m k, k + m = ywl i → Ga (d + 4) 85 16 [some (.ref 1), some (.ref (1000100 + i)), some (.int (yI k))] [] (yemb t) (.inl (some (.int (yb (yeqw B q i m k))))) (yemb t) := by
  obtain ⟨⟨b1, b2⟩, b3⟩ := yw_ok i hi
  obtain ⟨X, -, h4, hk, h5, -⟩ := T
  have h600 := X.1
  intro m
  induction m with
  | zero =>
    intro k hk' Q
    have h1 : yI (ywl i) ≤ yI k := (yI_le (by omega) (by omega)).mpr (by omega)
    rw [s_85_16]
    simp only [s_85_17, gs_217 hi f_85_18, m_217 hi, s_85_19, s_85_35, s_85_36, h1, if_true, ybo_1, Gk_v, Gk_n, xcat_nil, xcat_i, xcat_r, xcat_l, xcat_d, Nat.zero_le, Nat.reduceAdd, Nat.reduceLeDiff, true_and, and_true, ykl_i, ykl_r, ykl_n, ykl_l]
    exact Iff.rfl
  | succ m ih =>
    intro k hk' Q
    have h1 : ¬ yI (ywl i) ≤ yI k := fun h => absurd ((yI_le (by omega) (by omega)).mp h) (by omega)
    have e2 : yI q + yI k = yI (q + k) := yI_add
    have h2 : yix (yI (q + k)) 600 := yix_I (by omega) (by omega)
    have h3 : (yI (q + k)).toNatClampNeg = q + k := yI_clamp (by omega)
    have e3 : yI k + 1 = yI (k + 1) := yI_add
    have g18 := m_218 (d := d) (σ := yemb t) hi (show k < ywl i by omega)
    have hb := (b3 k (by omega)).1
    obtain ⟨hb2, hv⟩ := X.2.2 (q + k) (by omega)
    have he := ysb_eq (b := B (q + k)) (c := ywc i k) hb2 (by omega)
    rw [yeqw, s_85_16]
    by_cases h : B (q + k) = ywc i k
    · rw [if_pos h]
      simp only [s_85_17, gs_217 hi f_85_18, gs_218 hi f_85_29, m_217 hi, s_85_0, s_85_1, s_85_2, s_85_3, s_85_4, s_85_5, s_85_6, s_85_7, s_85_8, s_85_9, s_85_11, s_85_12, s_85_13, s_85_14, s_85_15, s_85_17, s_85_19, s_85_20, s_85_21, s_85_22, s_85_23, s_85_24, s_85_25, s_85_26, s_85_27, s_85_28, s_85_30, s_85_31, s_85_32, s_85_33, s_85_34, s_85_35, s_85_36, h1, if_false, if_true, yO_1, yA_2, yn_2, h4, e2, h2, h3, hv, g18, he.mpr h, e3, ih (k + 1) (by omega), Gk_v, Gk_n, xcat_nil, xcat_i, xcat_r, xcat_l, xcat_d, Nat.zero_le, Nat.reduceAdd, Nat.reduceLeDiff, true_and, and_true, ykl_i, ykl_r, ykl_n, ykl_l]
    · rw [if_neg h]
      have hne : ¬ ysb (B (q + k)) = yI (ywc i k) := fun h' => h (he.mp h')
      simp only [s_85_17, gs_217 hi f_85_18, gs_218 hi f_85_29, m_217 hi, s_85_0, s_85_1, s_85_2, s_85_3, s_85_4, s_85_5, s_85_6, s_85_7, s_85_8, s_85_9, s_85_11, s_85_12, s_85_13, s_85_14, s_85_15, s_85_17, s_85_19, s_85_20, s_85_21, s_85_22, s_85_23, s_85_24, s_85_25, s_85_26, s_85_27, s_85_28, s_85_30, s_85_31, s_85_32, s_85_33, s_85_34, s_85_35, s_85_36, h1, if_false, yO_1, yA_2, yn_2, h4, e2, h2, h3, hv, g18, hne, ybo_0, Gk_v, Gk_n, xcat_nil, xcat_i, xcat_r, xcat_l, xcat_d, Nat.zero_le, Nat.reduceAdd, Nat.reduceLeDiff, true_and, and_true, ykl_i, ykl_r, ykl_n, ykl_l]
      exact Iff.rfl
theorem m_85 {t : yT} {q i : Nat} (T : yTk t n B q) (hi : i < 14) : Ra (d + 4) 85 [.ref 1, .ref (1000100 + i)] (yemb t) (.inl (some (.int (yb (yisw n B q i))))) (yemb t) := by
  intro Q
  obtain ⟨⟨b1, b2⟩, b3⟩ := yw_ok i hi
  have hw := yisw_c (n := n) (B := B) (q := q) hi T.2.1
  have hle := ytkind_le (n := n) (B := B) (q := q)
  have hge := yte_ge (n := n) (B := B) (q := q)
  have hlen := yte_le (n := n) (B := B) (q := q) T.2.1
  obtain ⟨X, hq, h4, hk, h5, -⟩ := id T
  have h600 := X.1
  show G (d + 4) 85 0 [some (.ref 1), some (.ref (1000100 + i)), none] [] (yemb t) Q ↔ _
  by_cases k2 : ytkind n B q = 2
  · rw [k2] at hk
    have hk' : t.A 1 3 = 2 := hk
    have e1 : yI (yte n B q) - yI q = yI (yte n B q - q) := yI_sub hge
    by_cases hl : yte n B q = q + ywl i
    · have c1 : yI (yte n B q - q) = yI (ywl i) := by rw [hl, Nat.add_sub_cancel_left]
      have gl := l_85 (d := d) T hi (by omega) (ywl i) 0 (Nat.zero_add _) Q
      have hE : yisw n B q i = yeqw B q i (ywl i) 0 := by
        rw [Bool.eq_iff_iff, hw, yeqw_all]
        constructor
        · intro g j _ hj
          exact g.2.2 j (by omega)
        · intro g
          exact ⟨k2, hl, fun j hj => g j (Nat.zero_le _) (by omega)⟩
      rw [hE]
      simp only [s_85_9, gs_217 hi f_85_10, m_217 hi, s_85_0, s_85_1, s_85_2, s_85_3, s_85_4, s_85_5, s_85_6, s_85_7, s_85_8, s_85_9, s_85_11, s_85_12, s_85_13, s_85_14, s_85_15, s_85_17, s_85_19, s_85_20, s_85_21, s_85_22, s_85_23, s_85_24, s_85_25, s_85_26, s_85_27, s_85_28, s_85_30, s_85_31, s_85_32, s_85_33, s_85_34, s_85_35, s_85_36, yO_1, hk', h4, h5, e1, c1, ne_eq, not_true_eq_false, if_false, if_true, Gk_v, Gk_n, xcat_nil, xcat_i, xcat_r, xcat_l, xcat_d, Nat.zero_le, Nat.reduceAdd, Nat.reduceLeDiff, true_and, and_true, ykl_i, ykl_r, ykl_n, ykl_l]
      exact gl
    · have c1 : ¬ yI (yte n B q - q) = yI (ywl i) := fun h' => hl (by have := (yI_inj (by omega) (by omega)).mp h'; omega)
      have hE : yisw n B q i = false := by
        cases hx : yisw n B q i
        · rfl
        · exact absurd (hw.mp hx).2.1 hl
      rw [hE]
      simp only [s_85_9, gs_217 hi f_85_10, m_217 hi, s_85_0, s_85_1, s_85_2, s_85_3, s_85_4, s_85_5, s_85_6, s_85_7, s_85_8, s_85_9, s_85_11, s_85_12, s_85_13, s_85_14, s_85_15, s_85_17, s_85_19, s_85_20, s_85_21, s_85_22, s_85_23, s_85_24, s_85_25, s_85_26, s_85_27, s_85_28, s_85_30, s_85_31, s_85_32, s_85_33, s_85_34, s_85_35, s_85_36, yO_1, hk', h4, h5, e1, c1, ne_eq, not_true_eq_false, if_false, ybo_0, Gk_v, Gk_n, xcat_nil, xcat_i, xcat_r, xcat_l, xcat_d, Nat.zero_le, Nat.reduceAdd, Nat.reduceLeDiff, true_and, and_true, ykl_i, ykl_r, ykl_n, ykl_l]
      exact Iff.rfl
  · have hk' : ¬ yI (ytkind n B q) = 2 := fun h' => k2 ((yI_inj (m := 2) (by omega) (by decide)).mp h')
    have hE : yisw n B q i = false := by
      cases hx : yisw n B q i
      · rfl
      · exact absurd (hw.mp hx).1 k2
    rw [hE]
    simp only [s_85_0, s_85_1, s_85_2, s_85_3, s_85_4, s_85_5, s_85_6, s_85_7, s_85_8, s_85_9, s_85_11, s_85_12, s_85_13, s_85_14, s_85_15, s_85_17, s_85_19, s_85_20, s_85_21, s_85_22, s_85_23, s_85_24, s_85_25, s_85_26, s_85_27, s_85_28, s_85_30, s_85_31, s_85_32, s_85_33, s_85_34, s_85_35, s_85_36, yO_1, hk, hk', ne_eq, not_false_eq_true, if_true, ybo_0, Gk_v, Gk_n, xcat_nil, xcat_i, xcat_r, xcat_l, xcat_d, Nat.zero_le, Nat.reduceAdd, Nat.reduceLeDiff, true_and, and_true, ykl_i, ykl_r, ykl_n, ykl_l]
    exact Iff.rfl
end

/-! ===== the class's reader takes ===== -/
abbrev yKq (t u : yT) : Prop := (∀ j, (j < 3 ∨ 7 < j) → u.A 1 j = t.A 1 j) ∧ yFr (fun a => a = 1) t u
section
variable {d : Nat} {n : Nat} {B : Nat → Nat}
/-- what a refusal leaves -/
def yrf (t : yT) (c a : Int32) : yT := (t.s1 1 8 c).s1 1 9 a
theorem yrf_8 {t : yT} {c a : Int32} : (yrf t c a).A 1 8 = c := by
  unfold yrf
  rw [ys1_upd, yupd_ne (by decide)]
  exact ys1_same
theorem yrf_9 {t : yT} {c a : Int32} : (yrf t c a).A 1 9 = a := ys1_same
theorem yrf_j {t : yT} {c a : Int32} {j : Nat} (h8 : j ≠ 8) (h9 : j ≠ 9) : (yrf t c a).A 1 j = t.A 1 j := by
  unfold yrf
  rw [ys1_upd, yupd_ne h9, ys1_upd, yupd_ne h8]
theorem yrf_fr {t : yT} {c a : Int32} : yFr (fun a => a = 1) t (yrf t c a) := (yFr_s1 (P := fun a => a = 1) rfl).trans (yFr_s1 (P := fun a => a = 1) rfl) (fun a h => by omega)
theorem m_92 {t : yT} {c a : Int32} : Ra d 92 [.ref 1, .int c, .int a] (yemb t) (.inl (some (.int 0))) (yemb (yrf t c a)) := by
  intro Q
  show G d 92 0 [some (.ref 1), some (.int c), some (.int a)] [] (yemb t) Q ↔ _
  simp only [s_92_0, s_92_1, s_92_2, s_92_3, s_92_4, s_92_5, s_92_6, s_92_7, yO_1, ybo_0, Gk_v, Gk_n, xcat_nil, xcat_i, xcat_r, xcat_l, xcat_d, Nat.zero_le, Nat.reduceAdd, Nat.reduceLeDiff, true_and, and_true, ykl_i, ykl_r, ykl_n, ykl_l]
  exact Iff.rfl
theorem m_90 {t : yT} {c : Int32} : Ra (d + 1) 90 [.ref 1, .int c] (yemb t) (.inl (some (.int 0))) (yemb (yrf t c (t.A 1 4))) := by
  intro Q
  have g := m_92 (d := d) (t := t) (c := c) (a := t.A 1 4)
  show G (d + 1) 90 0 [some (.ref 1), some (.int c)] [] (yemb t) Q ↔ _
  simp only [s_90_0, s_90_1, s_90_2, s_90_3, s_90_4, s_90_5, yO_1, g, ybo_0, Gk_v, Gk_n, xcat_nil, xcat_i, xcat_r, xcat_l, xcat_d, Nat.zero_le, Nat.reduceAdd, Nat.reduceLeDiff, true_and, and_true, ykl_i, ykl_r, ykl_n, ykl_l]
theorem m_91 {t : yT} {c : Int32} : Ra (d + 1) 91 [.ref 1, .int c] (yemb t) (.inl (some (.int 0))) (yemb (yrf t c (t.A 1 7))) := by
  intro Q
  have g := m_92 (d := d) (t := t) (c := c) (a := t.A 1 7)
  show G (d + 1) 91 0 [some (.ref 1), some (.int c)] [] (yemb t) Q ↔ _
  simp only [s_91_0, s_91_1, s_91_2, s_91_3, s_91_4, s_91_5, yO_1, g, ybo_0, Gk_v, Gk_n, xcat_nil, xcat_i, xcat_r, xcat_l, xcat_d, Nat.zero_le, Nat.reduceAdd, Nat.reduceLeDiff, true_and, and_true, ykl_i, ykl_r, ykl_n, ykl_l]
theorem yTk_adv {t : yT} {q : Nat} (T : yTk t n B q) : ∃ u, Ra (d + 1) 80 [.ref 1] (yemb t) (.inl none) (yemb u) ∧ (yTk u n B (ysk n B (yte n B q)) ∧ yKp t u) :=
  m_80 (d := d) T.1 (yte_le T.2.1) T.2.2.2.2.1
theorem m_87t {t : yT} {q c : Nat} (T : yTk t n B q) (hc : c < 128) (hd : ydg c = false) (hl : yle c = false) (h : q < n ∧ B q = c) : ∃ u, Ra (d + 2) 87 [.ref 1, .int (yI c)] (yemb t) (.inl (some (.int 1))) (yemb u) ∧ (yTk u n B (ysk n B (q + 1)) ∧ yKp t u) := by
  have g := m_84 (d := d + 1) T hc hd hl
  rw [yb_dec h] at g
  obtain ⟨u, hu, Tu, Ku⟩ := yTk_adv (d := d) T
  have e : yte n B q = q + 1 := by rw [yte, if_neg (by omega), h.2, hd, hl]; rfl
  rw [e] at Tu
  have c1 : ¬ (1 : Int32) = 0 := by decide
  refine ⟨u, fun Q => ?_, Tu, Ku⟩
  show G (d + 2) 87 0 [some (.ref 1), some (.int (yI c))] [] (yemb t) Q ↔ _
  simp only [s_87_0, s_87_1, s_87_2, s_87_3, s_87_4, s_87_5, s_87_6, s_87_7, s_87_8, s_87_9, s_87_10, s_87_11, yO_1, g, c1, ne_eq, not_false_eq_true, if_true, hu, ybo_1, Gk_v, Gk_n, xcat_nil, xcat_i, xcat_r, xcat_l, xcat_d, Nat.zero_le, Nat.reduceAdd, Nat.reduceLeDiff, true_and, and_true, ykl_i, ykl_r, ykl_n, ykl_l]
theorem m_87f {t : yT} {q c : Nat} (T : yTk t n B q) (hc : c < 128) (hd : ydg c = false) (hl : yle c = false) (h : ¬ (q < n ∧ B q = c)) : Ra (d + 2) 87 [.ref 1, .int (yI c)] (yemb t) (.inl (some (.int 0))) (yemb (yrf t (-2) (yI q))) := by
  intro Q
  have g := m_84 (d := d + 1) T hc hd hl
  rw [yb_dec0 h] at g
  have g2 := m_90 (d := d) (t := t) (c := -2)
  rw [T.2.2.1] at g2
  show G (d + 2) 87 0 [some (.ref 1), some (.int (yI c))] [] (yemb t) Q ↔ _
  simp only [s_87_0, s_87_1, s_87_2, s_87_3, s_87_4, s_87_5, s_87_6, s_87_7, s_87_8, s_87_9, s_87_10, s_87_11, yO_1, g, ne_eq, not_true_eq_false, if_false, g2, ybo_0, Gk_v, Gk_n, xcat_nil, xcat_i, xcat_r, xcat_l, xcat_d, Nat.zero_le, Nat.reduceAdd, Nat.reduceLeDiff, true_and, and_true, ykl_i, ykl_r, ykl_n, ykl_l]
theorem yisw_e {q i : Nat} (hi : i < 14) (hq : q ≤ n) (h : yisw n B q i = true) : yte n B q = q + ywl i := ((yisw_c hi hq).mp h).2.1
theorem m_88t {t : yT} {q i : Nat} (T : yTk t n B q) (hi : i < 14) (h : yisw n B q i = true) : ∃ u, Ra (d + 5) 88 [.ref 1, .ref (1000100 + i)] (yemb t) (.inl (some (.int 1))) (yemb u) ∧ (yTk u n B (ysk n B (q + ywl i)) ∧ yKp t u) := by
  have g := m_85 (d := d) T hi
  rw [h] at g
  obtain ⟨u, hu, Tu, Ku⟩ := yTk_adv (d := d + 3) T
  rw [yisw_e hi T.2.1 h] at Tu
  have c1 : ¬ yb true = 0 := by decide
  refine ⟨u, fun Q => ?_, Tu, Ku⟩
  show G (d + 5) 88 0 [some (.ref 1), some (.ref (1000100 + i))] [] (yemb t) Q ↔ _
  simp only [s_88_0, s_88_1, s_88_2, s_88_3, s_88_4, s_88_5, s_88_6, s_88_7, s_88_8, s_88_9, s_88_10, s_88_11, yO_1, g, c1, ne_eq, not_false_eq_true, if_true, hu, ybo_1, Gk_v, Gk_n, xcat_nil, xcat_i, xcat_r, xcat_l, xcat_d, Nat.zero_le, Nat.reduceAdd, Nat.reduceLeDiff, true_and, and_true, ykl_i, ykl_r, ykl_n, ykl_l]
theorem m_88f {t : yT} {q i : Nat} (T : yTk t n B q) (hi : i < 14) (h : yisw n B q i = false) : Ra (d + 5) 88 [.ref 1, .ref (1000100 + i)] (yemb t) (.inl (some (.int 0))) (yemb (yrf t (-2) (yI q))) := by
  intro Q
  have g := m_85 (d := d) T hi
  rw [h] at g
  have g2 := m_90 (d := d + 3) (t := t) (c := -2)
  rw [T.2.2.1] at g2
  have c1 : yb false = 0 := rfl
  rw [c1] at g
  show G (d + 5) 88 0 [some (.ref 1), some (.ref (1000100 + i))] [] (yemb t) Q ↔ _
  simp only [s_88_0, s_88_1, s_88_2, s_88_3, s_88_4, s_88_5, s_88_6, s_88_7, s_88_8, s_88_9, s_88_10, s_88_11, yO_1, g, ne_eq, not_true_eq_false, if_false, g2, ybo_0, Gk_v, Gk_n, xcat_nil, xcat_i, xcat_r, xcat_l, xcat_d, Nat.zero_le, Nat.reduceAdd, Nat.reduceLeDiff, true_and, and_true, ykl_i, ykl_r, ykl_n, ykl_l]
/-- numbers: both values lie alike -/
theorem ynum_c {q lo hi : Nat} (hh : hi < 10000) : ynum n B q lo hi = true ↔ (ytkind n B q = 1 ∧ (lo ≤ yvl B (n - q) q 0 ∧ yvl B (n - q) q 0 ≤ hi)) ∧ yvm B (n - q) q 0 = yvl B (n - q) q 0 := by
  have hv := yv_both (B := B) (n - q) q 0 0 (Or.inl ⟨rfl, by decide⟩)
  unfold ynum
  rw [Bool.and_eq_true, Bool.and_eq_true, decide_eq_true_iff, decide_eq_true_iff]
  have hk : ytkind n B q = 1 ↔ q < n ∧ ydg (B q) = true := by
    unfold ytkind
    by_cases h : n ≤ q
    · rw [if_pos h]
      exact ⟨fun h' => (by cases h'), fun h' => by omega⟩
    · rw [if_neg h]
      cases hd : ydg (B q)
      · rw [if_neg (by decide)]
        constructor
        · intro h'
          split at h' <;> cases h'
        · intro h'
          cases h'.2
      · rw [if_pos rfl]
        exact ⟨fun _ => ⟨by omega, rfl⟩, fun _ => rfl⟩
  rw [hk]
  constructor
  · rintro ⟨h1, h2⟩
    rcases hv with ⟨e, -⟩ | ⟨-, e⟩
    · rw [e]
      exact ⟨⟨h1, h2⟩, rfl⟩
    · omega
  · rintro ⟨⟨h1, h2⟩, e⟩
    rw [e]
    exact ⟨h1, h2⟩
theorem m_89t {t : yT} {q lo hi : Nat} (T : yTk t n B q) (hh : hi < 10000) (h : ynum n B q lo hi = true) : ∃ u, Ra (d + 2) 89 [.ref 1, .int (yI lo), .int (yI hi)] (yemb t) (.inl (some (.int (yI (yvm B (n - q) q 0))))) (yemb u) ∧ (yTk u n B (ysk n B (yw ydg B (n - q) q)) ∧ (u.A 1 7 = yI q ∧ yKq t u)) := by
  obtain ⟨⟨k1, l1, l2⟩, ev⟩ := (ynum_c hh).mp h
  rw [ev]
  obtain ⟨X, hq, h4, hk, h5, h6⟩ := id T
  have h6' := h6 k1
  rw [k1] at hk
  have hk' : t.A 1 3 = 1 := hk
  have e : yte n B q = yw ydg B (n - q) q := by
    unfold yte ytkind at *
    by_cases hn : n ≤ q
    · rw [if_pos hn] at k1; cases k1
    · rw [if_neg hn] at k1 ⊢
      cases hd : ydg (B q)
      · rw [hd, if_neg (by decide)] at k1
        split at k1 <;> cases k1
      · rw [if_pos rfl]
  have T7 : yTk (t.s1 1 7 (yI q)) n B q := by
    have aj : ∀ j, j ≠ 7 → (t.s1 1 7 (yI q)).A 1 j = t.A 1 j := fun j hj => by rw [ys1_upd, yupd_ne hj]
    refine ⟨yXt_s1 X (by decide), hq, ?_, ?_, ?_, ?_⟩
    · rw [aj 4 (by decide)]; exact h4
    · rw [aj 3 (by decide), k1]; exact hk
    · rw [aj 5 (by decide)]; exact h5
    · rw [aj 6 (by decide)]; exact h6
  obtain ⟨u, hu, Tu, Ku⟩ := yTk_adv (d := d) T7
  rw [e] at Tu
  generalize yvl B (n - q) q 0 = v at *
  have c1 : ¬ yI v < yI lo := fun h' => absurd ((yI_lt (by omega) (by omega)).mp h') (by omega)
  have c2 : yI v ≤ yI hi := (yI_le (by omega) (by omega)).mpr l2
  refine ⟨u, fun Q => ?_, Tu, ?_, fun j hj => ?_, (yFr_s1 (P := fun a => a = 1) rfl).trans Ku.2 (fun a h => by omega)⟩
  · show G (d + 2) 89 0 [some (.ref 1), some (.int (yI lo)), some (.int (yI hi)), none] [] (yemb t) Q ↔ _
    simp only [s_89_0, s_89_1, s_89_2, s_89_3, s_89_4, s_89_5, s_89_6, s_89_7, s_89_7i, s_89_8, s_89_9, s_89_10, s_89_11, s_89_12, s_89_13, s_89_14, s_89_15, s_89_16, s_89_17, s_89_18, s_89_19, s_89_20, s_89_21, s_89_21i, s_89_22, s_89_23, s_89_24, s_89_25, s_89_26, s_89_27, s_89_28, s_89_29, s_89_30, s_89_31, s_89_32, s_89_33, s_89_34, yO_1, hk', h6', h4, c1, c2, if_true, if_false, hu, Gk_v, Gk_n, xcat_nil, xcat_i, xcat_r, xcat_l, xcat_d, Nat.zero_le, Nat.reduceAdd, Nat.reduceLeDiff, true_and, and_true, ykl_i, ykl_r, ykl_n, ykl_l]
  · rw [Ku.1 7 (by omega)]; exact ys1_same
  · rw [Ku.1 j (by omega), ys1_upd, yupd_ne (by omega)]
theorem m_89f {t : yT} {q lo hi : Nat} (T : yTk t n B q) (hl : lo < 10000) (hh : hi < 10000) (h : ynum n B q lo hi = false) : Ra (d + 2) 89 [.ref 1, .int (yI lo), .int (yI hi)] (yemb t) (.inl (some (.int (-1)))) (yemb (yrf t (if q < n ∧ ydg (B q) = true then -3 else -2) (yI q))) := by
  intro Q
  obtain ⟨X, hq, h4, hk, h5, h6⟩ := id T
  have g2 := m_90 (d := d) (t := t) (c := -2)
  have g3 := m_90 (d := d) (t := t) (c := -3)
  rw [h4] at g2 g3
  have hle := ytkind_le (n := n) (B := B) (q := q)
  have hkd : ytkind n B q = 1 ↔ q < n ∧ ydg (B q) = true := by
    unfold ytkind
    by_cases hn : n ≤ q
    · rw [if_pos hn]
      exact ⟨fun h' => (by cases h'), fun h' => by omega⟩
    · rw [if_neg hn]
      cases hd : ydg (B q)
      · rw [if_neg (by decide)]
        constructor
        · intro h'
          split at h' <;> cases h'
        · intro h'
          cases h'.2
      · rw [if_pos rfl]
        exact ⟨fun _ => ⟨by omega, rfl⟩, fun _ => rfl⟩
  show G (d + 2) 89 0 [some (.ref 1), some (.int (yI lo)), some (.int (yI hi)), none] [] (yemb t) Q ↔ _
  by_cases k1 : ytkind n B q = 1
  · rw [if_pos (hkd.mp k1)]
    have h6' := h6 k1
    rw [k1] at hk
    have hk' : t.A 1 3 = 1 := hk
    have hvl := yvl_lt (B := B) (n - q) q 0 (by decide)
    have hout : ¬ (lo ≤ yvl B (n - q) q 0 ∧ yvl B (n - q) q 0 ≤ hi) := by
      intro hin
      have hv := yv_both (B := B) (n - q) q 0 0 (Or.inl ⟨rfl, by decide⟩)
      have : ynum n B q lo hi = true := by
        refine (ynum_c hh).mpr ⟨⟨k1, hin⟩, ?_⟩
        rcases hv with ⟨e, -⟩ | ⟨e, -⟩
        · exact e.symm
        · omega
      rw [h] at this
      cases this
    generalize yvl B (n - q) q 0 = v at *
    by_cases c1 : yI v < yI lo
    · simp only [s_89_0, s_89_1, s_89_2, s_89_3, s_89_4, s_89_5, s_89_6, s_89_7, s_89_7i, s_89_8, s_89_9, s_89_10, s_89_11, s_89_12, s_89_13, s_89_14, s_89_15, s_89_16, s_89_17, s_89_18, s_89_19, s_89_20, s_89_21, s_89_21i, s_89_22, s_89_23, s_89_24, s_89_25, s_89_26, s_89_27, s_89_28, s_89_29, s_89_30, s_89_31, s_89_32, s_89_33, s_89_34, yO_1, hk', h6', c1, if_true, g3, s_89_21i, Gk_v, Gk_n, xcat_nil, xcat_i, xcat_r, xcat_l, xcat_d, Nat.zero_le, Nat.reduceAdd, Nat.reduceLeDiff, true_and, and_true, ykl_i, ykl_r, ykl_n, ykl_l]
    · have c1' : ¬ v < lo := fun h' => c1 ((yI_lt (by omega) (by omega)).mpr h')
      have c2 : ¬ yI v ≤ yI hi := fun h' => hout ⟨by omega, (yI_le (by omega) (by omega)).mp h'⟩
      simp only [s_89_0, s_89_1, s_89_2, s_89_3, s_89_4, s_89_5, s_89_6, s_89_7, s_89_7i, s_89_8, s_89_9, s_89_10, s_89_11, s_89_12, s_89_13, s_89_14, s_89_15, s_89_16, s_89_17, s_89_18, s_89_19, s_89_20, s_89_21, s_89_21i, s_89_22, s_89_23, s_89_24, s_89_25, s_89_26, s_89_27, s_89_28, s_89_29, s_89_30, s_89_31, s_89_32, s_89_33, s_89_34, yO_1, hk', h6', c1, c2, if_true, if_false, g3, s_89_21i, Gk_v, Gk_n, xcat_nil, xcat_i, xcat_r, xcat_l, xcat_d, Nat.zero_le, Nat.reduceAdd, Nat.reduceLeDiff, true_and, and_true, ykl_i, ykl_r, ykl_n, ykl_l]
  · rw [if_neg (fun h' => k1 (hkd.mpr h'))]
    have hk' : ¬ yI (ytkind n B q) = 1 := fun h' => k1 ((yI_inj (m := 1) (by omega) (by decide)).mp h')
    simp only [s_89_0, s_89_1, s_89_2, s_89_3, s_89_4, s_89_5, s_89_6, s_89_7, s_89_7i, s_89_8, s_89_9, s_89_10, s_89_11, s_89_12, s_89_13, s_89_14, s_89_15, s_89_16, s_89_17, s_89_18, s_89_19, s_89_20, s_89_21, s_89_21i, s_89_22, s_89_23, s_89_24, s_89_25, s_89_26, s_89_27, s_89_28, s_89_29, s_89_30, s_89_31, s_89_32, s_89_33, s_89_34, yO_1, hk, hk', if_false, g2, s_89_7i, Gk_v, Gk_n, xcat_nil, xcat_i, xcat_r, xcat_l, xcat_d, Nat.zero_le, Nat.reduceAdd, Nat.reduceLeDiff, true_and, and_true, ykl_i, ykl_r, ykl_n, ykl_l]
theorem m_86 {t : yT} {q : Nat} (T : yTk t n B q) : Ra (d + 2) 86 [.ref 1] (yemb t) (.inl (some (.int (if n ≤ q then 1 else 0)))) (yemb (if n ≤ q then t else yrf t (-2) (yI q))) := by
  intro Q
  have g := m_83 (d := d + 1) T
  have g2 := m_90 (d := d) (t := t) (c := -2)
  rw [T.2.2.1] at g2
  have c1 : ¬ (1 : Int32) = 0 := by decide
  show G (d + 2) 86 0 [some (.ref 1)] [] (yemb t) Q ↔ _
  by_cases h : n ≤ q
  · rw [yb_dec h] at g
    rw [if_pos h, if_pos h]
    simp only [s_86_0, s_86_1, s_86_2, s_86_3, s_86_4, s_86_5, s_86_6, s_86_7, s_86_8, s_86_9, s_86_10, yO_1, g, c1, ne_eq, not_false_eq_true, if_true, ybo_1, Gk_v, Gk_n, xcat_nil, xcat_i, xcat_r, xcat_l, xcat_d, Nat.zero_le, Nat.reduceAdd, Nat.reduceLeDiff, true_and, and_true, ykl_i, ykl_r, ykl_n, ykl_l]
  · rw [yb_dec0 h] at g
    rw [if_neg h, if_neg h]
    simp only [s_86_0, s_86_1, s_86_2, s_86_3, s_86_4, s_86_5, s_86_6, s_86_7, s_86_8, s_86_9, s_86_10, yO_1, g, ne_eq, not_true_eq_false, if_false, if_true, g2, ybo_0, Gk_v, Gk_n, xcat_nil, xcat_i, xcat_r, xcat_l, xcat_d, Nat.zero_le, Nat.reduceAdd, Nat.reduceLeDiff, true_and, and_true, ykl_i, ykl_r, ykl_n, ykl_l]
end

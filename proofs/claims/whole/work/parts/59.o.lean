/-! ===== the model's reader: signs and numbers ===== -/
section
variable {d : Nat} {n : Nat} {B : Nat → Nat}
theorem yYt_b {t : yT} (Y : yYt t n B) : ∀ i, i < n → B i < 256 := fun i hi => (Y.2.2 i hi).1
theorem yYt_fr {t u : yT} (Y : yYt t n B) (h3 : u.A 160 3 = t.A 160 3) (F : yFe t u) : yYt u n B := by
  refine ⟨Y.1, by rw [h3]; exact Y.2.1, fun i hi => ?_⟩
  rw [F.A (by decide)]
  exact Y.2.2 i hi
theorem m_136n {t : yT} (h5 : ¬ t.A 160 5 = 0) {c : Int32} : Ra (d + 2) 136 [.ref 160, .int c] (yemb t) (.inl none) (yemb t) := by
  intro Q
  have g := m_132 (d := d + 1) (t := t)
  rw [decide_eq_false h5] at g
  show G (d + 2) 136 0 [some (.ref 160), some (.int c)] [] (yemb t) Q ↔ _
  simp only [s_136_0, s_136_1, s_136_2, s_136_3, s_136_4, s_136_5, s_136_6, s_136_7, s_136_8, s_136_9, s_136_9i, s_136_10, s_136_11, s_136_12, s_136_13, s_136_14, s_136_15, s_136_16, s_136_17, s_136_18, s_136_19, s_136_20, yO_160, g, ifbn, Bool.false_eq_true, if_false, Gk_v, Gk_n, xcat_nil, xcat_i, xcat_r, xcat_l, xcat_d, Nat.zero_le, Nat.reduceAdd, Nat.reduceLeDiff, true_and, and_true, ykl_i, ykl_r, ykl_n, ykl_l]
theorem m_136t {t : yT} (Y : yYt t n B) {m c : Nat} (hm : m ≤ n) (h4 : t.A 160 4 = yI m) (h5 : t.A 160 5 = 0) (hc : c < 256) (h : ysk n B m < n ∧ B (ysk n B m) = c) : ∃ u, Ra (d + 2) 136 [.ref 160, .int (yI c)] (yemb t) (.inl none) (yemb u) ∧ (u.A 160 4 = yI (ysk n B m + 1) ∧ ((∀ j, j ≠ 4 → u.A 160 j = t.A 160 j) ∧ yFe t u)) := by
  obtain ⟨u, hu, u4, uj, Fu⟩ := m_131 (d := d) Y hm h4
  have g := m_132 (d := d + 1) (t := t)
  rw [decide_eq_true h5] at g
  rw [(ybt_is (yYt_b Y) hc).mpr h] at hu
  have h7 : yI (ysk n B m) + 1 = yI (ysk n B m + 1) := yI_add
  refine ⟨u.s1 160 4 (yI (ysk n B m + 1)), fun Q => ?_, ys1_same, fun j hj => ?_, yFe_tr Fu yFe_s1⟩
  · show G (d + 2) 136 0 [some (.ref 160), some (.int (yI c))] [] (yemb t) Q ↔ _
    simp only [s_136_0, s_136_1, s_136_2, s_136_3, s_136_4, s_136_5, s_136_6, s_136_7, s_136_8, s_136_9, s_136_9i, s_136_10, s_136_11, s_136_12, s_136_13, s_136_14, s_136_15, s_136_16, s_136_17, s_136_18, s_136_19, s_136_20, yO_160, g, ifbn, if_true, if_false, hu, ne_eq, not_true_eq_false, u4, h7, Gk_v, Gk_n, xcat_nil, xcat_i, xcat_r, xcat_l, xcat_d, Nat.zero_le, Nat.reduceAdd, Nat.reduceLeDiff, true_and, and_true, ykl_i, ykl_r, ykl_n, ykl_l]
  · rw [ys1_upd, yupd_ne hj, uj j hj]
theorem m_136f {t : yT} (Y : yYt t n B) {m c : Nat} (hm : m ≤ n) (h4 : t.A 160 4 = yI m) (h5 : t.A 160 5 = 0) (hc : c < 256) (h : ¬ (ysk n B m < n ∧ B (ysk n B m) = c)) : ∃ u, Ra (d + 2) 136 [.ref 160, .int (yI c)] (yemb t) (.inl none) (yemb u) ∧ (u.A 160 4 = yI (ysk n B m) ∧ (u.A 160 5 = -2 ∧ (u.A 160 6 = yI (ysk n B m) ∧ ((∀ j, j ≠ 4 → j ≠ 5 → j ≠ 6 → u.A 160 j = t.A 160 j) ∧ yFe t u)))) := by
  obtain ⟨u, hu, u4, uj, Fu⟩ := m_131 (d := d) Y hm h4
  have g := m_132 (d := d + 1) (t := t)
  rw [decide_eq_true h5] at g
  have hne : ¬ ybt n B (ysk n B m) = yI c := fun h' => h ((ybt_is (yYt_b Y) hc).mp h')
  have g133 := m_133 (d := d + 1) (t := u) (c := -2) (a := yI (ysk n B m)) (by rw [uj 5 (by decide)]; exact h5)
  refine ⟨(u.s1 160 5 (-2)).s1 160 6 (yI (ysk n B m)), fun Q => ?_, ?_, ?_, ys1_same, fun j j4 j5 j6 => ?_, yFe_tr (yFe_tr Fu yFe_s1) yFe_s1⟩
  · show G (d + 2) 136 0 [some (.ref 160), some (.int (yI c))] [] (yemb t) Q ↔ _
    simp only [s_136_0, s_136_1, s_136_2, s_136_3, s_136_4, s_136_5, s_136_6, s_136_7, s_136_8, s_136_9, s_136_9i, s_136_10, s_136_11, s_136_12, s_136_13, s_136_14, s_136_15, s_136_16, s_136_17, s_136_18, s_136_19, s_136_20, yO_160, g, ifbn, if_true, hu, hne, ne_eq, not_false_eq_true, u4, g133, Gk_v, Gk_n, xcat_nil, xcat_i, xcat_r, xcat_l, xcat_d, Nat.zero_le, Nat.reduceAdd, Nat.reduceLeDiff, true_and, and_true, ykl_i, ykl_r, ykl_n, ykl_l]
  · rw [ys1_upd, yupd_ne (by decide), ys1_upd, yupd_ne (by decide)]; exact u4
  · rw [ys1_upd, yupd_ne (by decide)]; exact ys1_same
  · rw [ys1_upd, yupd_ne j6, ys1_upd, yupd_ne j5, uj j j4]
theorem m_126 {x y : Int32} {σ : xS} : Ra d 126 [.int x, .int y] σ (.inl (some (.int (if y ≤ x then y else x)))) σ := by
  intro Q
  show G d 126 0 [some (.int x), some (.int y)] [] σ Q ↔ _
  by_cases h : y ≤ x
  · simp only [s_126_0, s_126_1, s_126_2, s_126_3, s_126_4, s_126_5, s_126_6, h, if_true, Gk_v, Gk_n, xcat_nil, xcat_i, xcat_r, xcat_l, xcat_d, Nat.zero_le, Nat.reduceAdd, Nat.reduceLeDiff, true_and, and_true, ykl_i, ykl_r, ykl_n, ykl_l]
  · simp only [s_126_0, s_126_1, s_126_2, s_126_3, s_126_4, s_126_5, s_126_6, h, if_false, Gk_v, Gk_n, xcat_nil, xcat_i, xcat_r, xcat_l, xcat_d, Nat.zero_le, Nat.reduceAdd, Nat.reduceLeDiff, true_and, and_true, ykl_i, ykl_r, ykl_n, ykl_l]
theorem l_137 {lo hi : Int32} : ∀ m i v (t : yT), i + m = n → v ≤ 100000000 → yYt t n B → t.A 160 4 = yI i → ∃ u, Gg (d + 2) 137 22 [some (.ref 160), some (.int lo), some (.int hi), some (.int (yI v))] [] (yemb t) 48 [some (.ref 160), some (.int lo), some (.int hi), some (.int (yI (yvm B m i v)))] [] (yemb u) ∧ (u.A 160 4 = yI (yw ydg B m i) ∧ ((∀ j, j ≠ 4 → u.A 160 j = t.A 160 j) ∧ yFe t u)) := by
  intro m
  induction m with
  | zero =>
    intro i v t hi' hv Y h4
    have h600 := Y.1
    have g := m_130 (d := d + 1) Y (i := i) (by omega)
    have e : (decide ((48 : Int32) ≤ ybt n B i ∧ ybt n B i ≤ 57)) = false := by
      rw [ybt_dg (yYt_b Y), decide_eq_false (by omega)]
      rfl
    have g2 := fun (t' : yT) => m_134 (d := d) (x := ybt n B i) (σ := yemb t')
    rw [e] at g2
    refine ⟨t, fun Q => ?_, h4, fun _ _ => rfl, yFe_rfl⟩
    rw [s_137_22]
    simp only [s_137_0, s_137_1, s_137_2, s_137_3, s_137_4, s_137_5, s_137_6, s_137_7, s_137_8, s_137_9, s_137_10, s_137_11, s_137_12, s_137_13, s_137_14, s_137_15, s_137_16, s_137_17, s_137_18, s_137_19, s_137_20, s_137_21, s_137_23, s_137_24, s_137_25, s_137_26, s_137_27, s_137_28, s_137_29, s_137_30, s_137_31, s_137_32, s_137_33, s_137_34, s_137_35, s_137_36, s_137_37, s_137_38, s_137_39, s_137_40, s_137_41, s_137_42, s_137_42i, s_137_43, s_137_44, s_137_45, s_137_46, s_137_47, s_137_49, s_137_50, s_137_51, s_137_52, s_137_53, s_137_54, s_137_55, s_137_56, s_137_57, s_137_58, s_137_59, s_137_60, s_137_61, s_137_62, s_137_63, s_137_64, yO_160, h4, g, g2, ifb, Bool.false_eq_true, if_false, Gk_v, Gk_n, xcat_nil, xcat_i, xcat_r, xcat_l, xcat_d, Nat.zero_le, Nat.reduceAdd, Nat.reduceLeDiff, true_and, and_true, ykl_i, ykl_r, ykl_n, ykl_l]
    rfl
  | succ m ih =>
    intro i v t hi' hv Y h4
    have h600 := Y.1
    have g := m_130 (d := d + 1) Y (i := i) (by omega)
    have g2 := fun (t' : yT) => m_134 (d := d) (x := ybt n B i) (σ := yemb t')
    rw [ybt_dg (yYt_b Y), decide_eq_true (show i < n by omega), Bool.true_and] at g2
    have h7 : yI i + 1 = yI (i + 1) := yI_add
    rw [yw, yvm]
    cases hc : ydg (B i)
    · rw [hc] at g2
      refine ⟨t, fun Q => ?_, ?_, fun _ _ => rfl, yFe_rfl⟩
      · rw [s_137_22, if_neg (by decide)]
        simp only [s_137_0, s_137_1, s_137_2, s_137_3, s_137_4, s_137_5, s_137_6, s_137_7, s_137_8, s_137_9, s_137_10, s_137_11, s_137_12, s_137_13, s_137_14, s_137_15, s_137_16, s_137_17, s_137_18, s_137_19, s_137_20, s_137_21, s_137_23, s_137_24, s_137_25, s_137_26, s_137_27, s_137_28, s_137_29, s_137_30, s_137_31, s_137_32, s_137_33, s_137_34, s_137_35, s_137_36, s_137_37, s_137_38, s_137_39, s_137_40, s_137_41, s_137_42, s_137_42i, s_137_43, s_137_44, s_137_45, s_137_46, s_137_47, s_137_49, s_137_50, s_137_51, s_137_52, s_137_53, s_137_54, s_137_55, s_137_56, s_137_57, s_137_58, s_137_59, s_137_60, s_137_61, s_137_62, s_137_63, s_137_64, yO_160, h4, g, g2, ifb, Bool.false_eq_true, if_false, Gk_v, Gk_n, xcat_nil, xcat_i, xcat_r, xcat_l, xcat_d, Nat.zero_le, Nat.reduceAdd, Nat.reduceLeDiff, true_and, and_true, ykl_i, ykl_r, ykl_n, ykl_l]
      · rw [if_neg (by decide)]; exact h4
    · rw [hc] at g2
      have hd : 48 ≤ B i ∧ B i ≤ 57 := of_decide_eq_true hc
      rw [if_pos rfl, if_pos rfl]
      have e1 : ybt n B i = yI (B i) := by
        unfold ybt
        rw [if_pos (by omega)]
      rw [e1] at g g2
      have c2 : (10 : Int32) * yI v + yI (B i) - 48 = yI (10 * v + B i - 48) := by
        have e1 : (10 : Int32) * yI v = yI (10 * v) := yI_mul
        have e2 : (48 : Int32) = yI 48 := rfl
        rw [e1, yI_add, e2, yI_sub (by omega)]
      have c3 : (if yI (10 * v + B i - 48) ≤ (100000000 : Int32) then yI (10 * v + B i - 48) else 100000000) = yI (min 100000000 (10 * v + B i - 48)) := by
        have e3 : yI (10 * v + B i - 48) ≤ (100000000 : Int32) ↔ 10 * v + B i - 48 ≤ 100000000 := yI_le (m := 100000000) (by omega) (by decide)
        by_cases h : 10 * v + B i - 48 ≤ 100000000
        · rw [if_pos (e3.mpr h), Nat.min_eq_right h]
        · rw [if_neg (fun h' => h (e3.mp h')), Nat.min_eq_left (by omega)]
          rfl
      obtain ⟨u, hu, u4, uj, Fu⟩ := ih (i + 1) (min 100000000 (10 * v + B i - 48)) (t.s1 160 4 (yI (i + 1))) (by omega) (by omega) (yYt_4 Y (by decide)) ys1_same
      refine ⟨u, fun Q => ?_, u4, fun j hj => ?_, yFe_tr yFe_s1 Fu⟩
      · rw [s_137_22]
        simp only [s_137_0, s_137_1, s_137_2, s_137_3, s_137_4, s_137_5, s_137_6, s_137_7, s_137_8, s_137_9, s_137_10, s_137_11, s_137_12, s_137_13, s_137_14, s_137_15, s_137_16, s_137_17, s_137_18, s_137_19, s_137_20, s_137_21, s_137_23, s_137_24, s_137_25, s_137_26, s_137_27, s_137_28, s_137_29, s_137_30, s_137_31, s_137_32, s_137_33, s_137_34, s_137_35, s_137_36, s_137_37, s_137_38, s_137_39, s_137_40, s_137_41, s_137_42, s_137_42i, s_137_43, s_137_44, s_137_45, s_137_46, s_137_47, s_137_49, s_137_50, s_137_51, s_137_52, s_137_53, s_137_54, s_137_55, s_137_56, s_137_57, s_137_58, s_137_59, s_137_60, s_137_61, s_137_62, s_137_63, s_137_64, yO_160, h4, g, g2, ifb, if_true, c2, m_126, c3, h7, hu, Gk_v, Gk_n, xcat_nil, xcat_i, xcat_r, xcat_l, xcat_d, Nat.zero_le, Nat.reduceAdd, Nat.reduceLeDiff, true_and, and_true, ykl_i, ykl_r, ykl_n, ykl_l]
      · rw [uj j hj, ys1_upd, yupd_ne hj]
/-- the number at q, if it lies between -/
def ynum (n : Nat) (B : Nat → Nat) (q lo hi : Nat) : Bool := (decide (q < n) && ydg (B q)) && decide (lo ≤ yvm B (n - q) q 0 ∧ yvm B (n - q) q 0 ≤ hi)
theorem m_137n {t : yT} (h5 : ¬ t.A 160 5 = 0) {lo hi : Int32} : Ra (d + 2) 137 [.ref 160, .int lo, .int hi] (yemb t) (.inl (some (.int 0))) (yemb t) := by
  intro Q
  have g := m_132 (d := d + 1) (t := t)
  rw [decide_eq_false h5] at g
  show G (d + 2) 137 0 [some (.ref 160), some (.int lo), some (.int hi), none] [] (yemb t) Q ↔ _
  simp only [s_137_0, s_137_1, s_137_2, s_137_3, s_137_4, s_137_5, s_137_6, s_137_7, s_137_8, s_137_9, s_137_10, s_137_11, s_137_12, s_137_13, s_137_14, s_137_15, s_137_16, s_137_17, s_137_18, s_137_19, s_137_20, s_137_21, s_137_23, s_137_24, s_137_25, s_137_26, s_137_27, s_137_28, s_137_29, s_137_30, s_137_31, s_137_32, s_137_33, s_137_34, s_137_35, s_137_36, s_137_37, s_137_38, s_137_39, s_137_40, s_137_41, s_137_42, s_137_42i, s_137_43, s_137_44, s_137_45, s_137_46, s_137_47, s_137_49, s_137_50, s_137_51, s_137_52, s_137_53, s_137_54, s_137_55, s_137_56, s_137_57, s_137_58, s_137_59, s_137_60, s_137_61, s_137_62, s_137_63, s_137_64, yO_160, g, ifbn, Bool.false_eq_true, if_false, Gk_v, Gk_n, xcat_nil, xcat_i, xcat_r, xcat_l, xcat_d, Nat.zero_le, Nat.reduceAdd, Nat.reduceLeDiff, true_and, and_true, ykl_i, ykl_r, ykl_n, ykl_l]
theorem m_137 {t : yT} (Y : yYt t n B) {m lo hi : Nat} (hl : lo < 10000) (hh : hi < 10000) (hm : m ≤ n) (h4 : t.A 160 4 = yI m) (h5 : t.A 160 5 = 0) : ∃ u, Ra (d + 2) 137 [.ref 160, .int (yI lo), .int (yI hi)] (yemb t) (.inl (some (.int (if ynum n B (ysk n B m) lo hi = true then yI (yvm B (n - ysk n B m) (ysk n B m) 0) else 0)))) (yemb u) ∧ ((if ynum n B (ysk n B m) lo hi = true then u.A 160 4 = yI (yw ydg B (n - ysk n B m) (ysk n B m)) ∧ (u.A 160 17 = yI (ysk n B m) ∧ (u.A 160 5 = 0 ∧ u.A 160 6 = t.A 160 6)) else u.A 160 5 = (if ysk n B m < n ∧ ydg (B (ysk n B m)) = true then -3 else -2) ∧ u.A 160 6 = yI (ysk n B m)) ∧ ((∀ j, j ≠ 4 → j ≠ 5 → j ≠ 6 → j ≠ 17 → u.A 160 j = t.A 160 j) ∧ yFe t u)) := by
  obtain ⟨v, hv, v4, vj, Fv⟩ := m_131 (d := d) Y hm h4
  have hq := ysk_le (n := n) (B := B) hm
  have h600 := Y.1
  have g := m_132 (d := d + 1) (t := t)
  rw [decide_eq_true h5] at g
  have g2 := fun (t' : yT) => m_134 (d := d) (x := ybt n B (ysk n B m)) (σ := yemb t')
  rw [ybt_dg (yYt_b Y)] at g2
  generalize ysk n B m = q at *
  have v5 : v.A 160 5 = 0 := by rw [vj 5 (by decide)]; exact h5
  cases hc : (decide (q < n) && ydg (B q))
  · have hno : ¬ (q < n ∧ ydg (B q) = true) := by
      intro h
      rw [decide_eq_true h.1, h.2] at hc
      cases hc
    have hn : ynum n B q lo hi = false := by rw [ynum, hc]; rfl
    rw [hc] at g2
    have g133 := m_133 (d := d + 1) (t := v) (c := -2) (a := yI q) v5
    refine ⟨(v.s1 160 5 (-2)).s1 160 6 (yI q), fun Q => ?_, ?_, fun j j4 j5 j6 j17 => ?_, yFe_tr (yFe_tr Fv yFe_s1) yFe_s1⟩
    · rw [hn, if_neg (by decide)]
      show G (d + 2) 137 0 [some (.ref 160), some (.int (yI lo)), some (.int (yI hi)), none] [] (yemb t) Q ↔ _
      simp only [s_137_0, s_137_1, s_137_2, s_137_3, s_137_4, s_137_5, s_137_6, s_137_7, s_137_8, s_137_9, s_137_10, s_137_11, s_137_12, s_137_13, s_137_14, s_137_15, s_137_16, s_137_17, s_137_18, s_137_19, s_137_20, s_137_21, s_137_23, s_137_24, s_137_25, s_137_26, s_137_27, s_137_28, s_137_29, s_137_30, s_137_31, s_137_32, s_137_33, s_137_34, s_137_35, s_137_36, s_137_37, s_137_38, s_137_39, s_137_40, s_137_41, s_137_42, s_137_42i, s_137_43, s_137_44, s_137_45, s_137_46, s_137_47, s_137_49, s_137_50, s_137_51, s_137_52, s_137_53, s_137_54, s_137_55, s_137_56, s_137_57, s_137_58, s_137_59, s_137_60, s_137_61, s_137_62, s_137_63, s_137_64, yO_160, g, ifbn, if_true, if_false, hv, g2, Bool.false_eq_true, v4, g133, Gk_v, Gk_n, xcat_nil, xcat_i, xcat_r, xcat_l, xcat_d, Nat.zero_le, Nat.reduceAdd, Nat.reduceLeDiff, true_and, and_true, ykl_i, ykl_r, ykl_n, ykl_l]
    · rw [hn, if_neg (by decide), if_neg hno]
      exact ⟨by rw [ys1_upd, yupd_ne (by decide)]; exact ys1_same, ys1_same⟩
    · rw [ys1_upd, yupd_ne j6, ys1_upd, yupd_ne j5, vj j j4]
  · have hyes : q < n ∧ ydg (B q) = true := by
      rw [Bool.and_eq_true, decide_eq_true_iff] at hc
      exact hc
    rw [hc] at g2
    have Yv : yYt (v.s1 160 17 (yI q)) n B := yYt_4 (yYt_fr Y (vj 3 (by decide)) Fv) (by decide)
    have w4 : (v.s1 160 17 (yI q)).A 160 4 = yI q := by rw [ys1_upd, yupd_ne (by decide)]; exact v4
    obtain ⟨w, hw, x4, wj, Fw⟩ := l_137 (d := d) (lo := yI lo) (hi := yI hi) (n - q) q 0 (v.s1 160 17 (yI q)) (by omega) (by decide) Yv w4
    have Ft : yFe t w := yFe_tr (yFe_tr Fv yFe_s1) Fw
    have x5 : w.A 160 5 = 0 := by rw [wj 5 (by decide), ys1_upd, yupd_ne (by decide)]; exact v5
    have x17 : w.A 160 17 = yI q := by rw [wj 17 (by decide)]; exact ys1_same
    have xj : ∀ j, j ≠ 4 → j ≠ 17 → w.A 160 j = t.A 160 j := fun j j4 j17 => by rw [wj j j4, ys1_upd, yupd_ne j17, vj j j4]
    have hvb := yvm_lt (B := B) (n - q) q 0 (by decide)
    have gin := yI_in (a := lo) (b := yvm B (n - q) q 0) (c := hi) (by omega) (by omega) (by omega)
    have start : ∀ Q, G (d + 2) 137 0 [some (.ref 160), some (.int (yI lo)), some (.int (yI hi)), none] [] (yemb t) Q ↔ G (d + 2) 137 48 [some (.ref 160), some (.int (yI lo)), some (.int (yI hi)), some (.int (yI (yvm B (n - q) q 0)))] [] (yemb w) Q := by
      intro Q
      have hw' := hw Q
      simp only [s_137_0, s_137_1, s_137_2, s_137_3, s_137_4, s_137_5, s_137_6, s_137_7, s_137_8, s_137_9, s_137_10, s_137_11, s_137_12, s_137_13, s_137_14, s_137_15, s_137_16, s_137_17, s_137_18, s_137_19, s_137_20, s_137_21, s_137_23, s_137_24, s_137_25, s_137_26, s_137_27, s_137_28, s_137_29, s_137_30, s_137_31, s_137_32, s_137_33, s_137_34, s_137_35, s_137_36, s_137_37, s_137_38, s_137_39, s_137_40, s_137_41, s_137_42, s_137_42i, s_137_43, s_137_44, s_137_45, s_137_46, s_137_47, s_137_49, s_137_50, s_137_51, s_137_52, s_137_53, s_137_54, s_137_55, s_137_56, s_137_57, s_137_58, s_137_59, s_137_60, s_137_61, s_137_62, s_137_63, s_137_64, yO_160, g, ifbn, if_true, if_false, hv, g2, v4, Gk_v, Gk_n, xcat_nil, xcat_i, xcat_r, xcat_l, xcat_d, Nat.zero_le, Nat.reduceAdd, Nat.reduceLeDiff, true_and, and_true, ykl_i, ykl_r, ykl_n, ykl_l]
      exact hw'
    cases hin : decide (lo ≤ yvm B (n - q) q 0 ∧ yvm B (n - q) q 0 ≤ hi)
    · have hn : ynum n B q lo hi = false := by rw [ynum, hc, hin]; rfl
      rw [hin] at gin
      have g133 := m_133 (d := d + 1) (t := w) (c := -3) (a := yI q) x5
      have y5 : ((w.s1 160 5 (-3)).s1 160 6 (yI q)).A 160 5 = -3 := by rw [ys1_upd, yupd_ne (by decide)]; exact ys1_same
      have g3 := m_132 (d := d + 1) (t := (w.s1 160 5 (-3)).s1 160 6 (yI q))
      rw [y5, show decide ((-3 : Int32) = 0) = false by decide] at g3
      refine ⟨(w.s1 160 5 (-3)).s1 160 6 (yI q), fun Q => ?_, ?_, fun j j4 j5 j6 j17 => ?_, yFe_tr (yFe_tr Ft yFe_s1) yFe_s1⟩
      · rw [hn, if_neg (by decide)]
        show G (d + 2) 137 0 [some (.ref 160), some (.int (yI lo)), some (.int (yI hi)), none] [] (yemb t) Q ↔ _
        rw [start Q, s_137_48]
        simp only [s_137_0, s_137_1, s_137_2, s_137_3, s_137_4, s_137_5, s_137_6, s_137_7, s_137_8, s_137_9, s_137_10, s_137_11, s_137_12, s_137_13, s_137_14, s_137_15, s_137_16, s_137_17, s_137_18, s_137_19, s_137_20, s_137_21, s_137_23, s_137_24, s_137_25, s_137_26, s_137_27, s_137_28, s_137_29, s_137_30, s_137_31, s_137_32, s_137_33, s_137_34, s_137_35, s_137_36, s_137_37, s_137_38, s_137_39, s_137_40, s_137_41, s_137_42, s_137_42i, s_137_43, s_137_44, s_137_45, s_137_46, s_137_47, s_137_49, s_137_50, s_137_51, s_137_52, s_137_53, s_137_54, s_137_55, s_137_56, s_137_57, s_137_58, s_137_59, s_137_60, s_137_61, s_137_62, s_137_63, s_137_64, yO_160, m_125, gin, ifbn, ifb, Bool.false_eq_true, if_false, x17, g133, g3, Gk_v, Gk_n, xcat_nil, xcat_i, xcat_r, xcat_l, xcat_d, Nat.zero_le, Nat.reduceAdd, Nat.reduceLeDiff, true_and, and_true, ykl_i, ykl_r, ykl_n, ykl_l]
      · rw [hn, if_neg (by decide), if_pos hyes]
        exact ⟨y5, ys1_same⟩
      · rw [ys1_upd, yupd_ne j6, ys1_upd, yupd_ne j5, xj j j4 j17]
    · have hn : ynum n B q lo hi = true := by rw [ynum, hc, hin]; rfl
      rw [hin] at gin
      have g3 := m_132 (d := d + 1) (t := w)
      rw [decide_eq_true x5] at g3
      refine ⟨w, fun Q => ?_, ?_, fun j j4 j5 j6 j17 => xj j j4 j17, Ft⟩
      · rw [hn, if_pos rfl]
        show G (d + 2) 137 0 [some (.ref 160), some (.int (yI lo)), some (.int (yI hi)), none] [] (yemb t) Q ↔ _
        rw [start Q, s_137_48]
        simp only [s_137_0, s_137_1, s_137_2, s_137_3, s_137_4, s_137_5, s_137_6, s_137_7, s_137_8, s_137_9, s_137_10, s_137_11, s_137_12, s_137_13, s_137_14, s_137_15, s_137_16, s_137_17, s_137_18, s_137_19, s_137_20, s_137_21, s_137_23, s_137_24, s_137_25, s_137_26, s_137_27, s_137_28, s_137_29, s_137_30, s_137_31, s_137_32, s_137_33, s_137_34, s_137_35, s_137_36, s_137_37, s_137_38, s_137_39, s_137_40, s_137_41, s_137_42, s_137_42i, s_137_43, s_137_44, s_137_45, s_137_46, s_137_47, s_137_49, s_137_50, s_137_51, s_137_52, s_137_53, s_137_54, s_137_55, s_137_56, s_137_57, s_137_58, s_137_59, s_137_60, s_137_61, s_137_62, s_137_63, s_137_64, yO_160, m_125, gin, ifbn, ifb, if_true, g3, Gk_v, Gk_n, xcat_nil, xcat_i, xcat_r, xcat_l, xcat_d, Nat.zero_le, Nat.reduceAdd, Nat.reduceLeDiff, true_and, and_true, ykl_i, ykl_r, ykl_n, ykl_l]
      · rw [hn, if_pos rfl]
        exact ⟨x4, x17, x5, xj 6 (by decide) (by decide)⟩
end

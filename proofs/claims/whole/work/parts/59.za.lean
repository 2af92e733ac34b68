/-! ===== the model's sums: items ===== -/
def yg (l : List Int32) (i : Nat) : Int32 := l.getD i 0
def ycode (v : Int32) : Int32 := if 0 ≤ v then 0 else if -2 ≤ v then 1 else -1 - v
def ycval (v : Int32) : Int32 := if 0 ≤ v then v else -1 - v
theorem ycp_cong {g h : Nat → Int32} : ∀ i, (∀ j, j < i → g j = h j) → ycp g i = ycp h i := by
  intro i
  induction i with
  | zero => intro _; rfl
  | succ i ih =>
    intro hh
    rw [ycp, ycp, ih (fun j hj => hh j (by omega)), hh i (by omega)]
theorem yg_lo {l : List Int32} {v : Int32} {i : Nat} (h : i < l.length) : yg (l ++ [v]) i = yg l i := by
  unfold yg
  rw [List.getD_eq_getElem?_getD, List.getD_eq_getElem?_getD, List.getElem?_append_left h]
theorem yg_at {l : List Int32} {v : Int32} : yg (l ++ [v]) l.length = v := by
  unfold yg
  rw [List.getD_eq_getElem?_getD, List.getElem?_append_right (Nat.le_refl _), Nat.sub_self]
  rfl
theorem ycp_lo {l : List Int32} {v : Int32} {i : Nat} (h : i ≤ l.length) : ycp (yg (l ++ [v])) i = ycp (yg l) i := ycp_cong i (fun j hj => yg_lo (by omega))
theorem ycp_2 (g : Nat → Int32) : ∀ i, ycp g i ≤ 2 * i := by
  intro i
  induction i with
  | zero => exact Nat.le_refl _
  | succ i ih =>
    rw [ycp]
    split <;> omega
theorem ycp_mono (g : Nat → Int32) : ∀ i, ycp g i < ycp g (i + 1) := by
  intro i
  rw [ycp]
  split <;> omega
theorem ycp_bk (g : Nat → Int32) : ∀ m i, ycp g i + (if -2 ≤ g i then 2 else 1) ≤ ycp g (i + 1 + m) := by
  intro m
  induction m with
  | zero =>
    intro i
    show _ ≤ ycp g (i + 1)
    rw [ycp]
    split <;> omega
  | succ m ih =>
    intro i
    have h1 := ih i
    have h2 := ycp_mono g (i + 1 + m)
    rw [show i + 1 + (m + 1) = i + 1 + m + 1 by omega]
    omega
/-- the items l stand as codes in the row S -/
abbrev yJs (S : Nat → Int32) (l : List Int32) : Prop := l.length ≤ 600 ∧ (S 7 = yI (ycp (yg l) l.length) ∧ ∀ i, i < l.length → S (340 + ycp (yg l) i) = ycode (yg l i) ∧ (-2 ≤ yg l i → S (340 + ycp (yg l) i + 1) = ycval (yg l i)))
section
variable {d : Nat}
theorem m_138n {t : yT} (h5 : ¬ t.A 160 5 = 0) {c : Int32} : Ra (d + 1) 138 [.ref 160, .int c] (yemb t) (.inl none) (yemb t) := by
  intro Q
  have g := m_132 (d := d) (t := t)
  rw [decide_eq_false h5] at g
  show G (d + 1) 138 0 [some (.ref 160), some (.int c)] [] (yemb t) Q ↔ _
  simp only [s_138_0, s_138_1, s_138_2, s_138_3, s_138_4, s_138_5, s_138_6, s_138_7, s_138_8, s_138_9, s_138_10, s_138_11, s_138_12, s_138_13, s_138_14, s_138_15, s_138_16, s_138_17, s_138_18, s_138_19, s_138_20, s_138_21, s_138_22, yO_160, g, ifbn, Bool.false_eq_true, if_false, Gk_v, Gk_n, xcat_nil, xcat_i, xcat_r, xcat_l, xcat_d, Nat.zero_le, Nat.reduceAdd, Nat.reduceLeDiff, true_and, and_true, ykl_i, ykl_r, ykl_n, ykl_l]
theorem m_138 {t : yT} (h5 : t.A 160 5 = 0) {k : Nat} (h7 : t.A 163 7 = yI k) (hk : k < 1200) {c : Int32} : Ra (d + 1) 138 [.ref 160, .int c] (yemb t) (.inl none) (yemb ((t.s1 163 (340 + k) c).s1 163 7 (yI (k + 1)))) := by
  intro Q
  have g := m_132 (d := d) (t := t)
  rw [decide_eq_true h5] at g
  have i7 : yix 7 1540 := yix_I (n := 7) (by omega) (by omega)
  have c7 : (7 : Int32).toNatClampNeg = 7 := rfl
  have e1 : (340 : Int32) + yI k = yI (340 + k) := yI_add
  have e2 : yI k + 1 = yI (k + 1) := yI_add
  have i2 : yix (yI (340 + k)) 1540 := yix_I (by omega) (by omega)
  have c2 : (yI (340 + k)).toNatClampNeg = 340 + k := yI_clamp (by omega)
  have g7 : (t.s1 163 (340 + k) c).A 163 7 = yI k := by
    rw [ys1_upd, yupd_ne (by omega)]
    exact h7
  show G (d + 1) 138 0 [some (.ref 160), some (.int c)] [] (yemb t) Q ↔ _
  simp only [s_138_0, s_138_1, s_138_2, s_138_3, s_138_4, s_138_5, s_138_6, s_138_7, s_138_8, s_138_9, s_138_10, s_138_11, s_138_12, s_138_13, s_138_14, s_138_15, s_138_16, s_138_17, s_138_18, s_138_19, s_138_20, s_138_21, s_138_22, yO_160, yA_163, yn_163, g, ifbn, if_true, i7, c7, h7, e1, i2, c2, g7, e2, Gk_v, Gk_n, xcat_nil, xcat_i, xcat_r, xcat_l, xcat_d, Nat.zero_le, Nat.reduceAdd, Nat.reduceLeDiff, true_and, and_true, ykl_i, ykl_r, ykl_n, ykl_l]
theorem m_139n {t : yT} (h5 : ¬ t.A 160 5 = 0) : Ra (d + 1) 139 [.ref 160] (yemb t) (.inl none) (yemb t) := by
  intro Q
  have g := m_132 (d := d) (t := t)
  rw [decide_eq_false h5] at g
  show G (d + 1) 139 0 [some (.ref 160), none, none, none] [] (yemb t) Q ↔ _
  simp only [s_139_0, s_139_1 yO_160, s_139_2, s_139_3, g, ifbn, Bool.false_eq_true, if_false, Gk_v, Gk_n, xcat_nil, xcat_i, xcat_r, xcat_l, xcat_d, Nat.zero_le, Nat.reduceAdd, Nat.reduceLeDiff, true_and, and_true, ykl_i, ykl_r, ykl_n, ykl_l]
theorem m_140n {t : yT} (h5 : ¬ t.A 160 5 = 0) : Ra (d + 2) 140 [.ref 160] (yemb t) (.inl none) (yemb t) := by
  intro Q
  have g := m_132 (d := d + 1) (t := t)
  rw [decide_eq_false h5] at g
  have g2 := m_139n (d := d) h5
  show G (d + 2) 140 0 [some (.ref 160), none] [] (yemb t) Q ↔ _
  simp only [s_140_0, s_140_1 yO_160, s_140_2, s_140_3 yO_160, s_140_4, s_140_37, g, g2, ifb, Bool.false_eq_true, if_false, if_true, Gk_v, Gk_n, xcat_nil, xcat_i, xcat_r, xcat_l, xcat_d, Nat.zero_le, Nat.reduceAdd, Nat.reduceLeDiff, true_and, and_true, ykl_i, ykl_r, ykl_n, ykl_l]
theorem m_141n {t : yT} (h5 : ¬ t.A 160 5 = 0) : Ra (d + 3) 141 [.ref 160] (yemb t) (.inl none) (yemb t) := by
  intro Q
  have g := m_132 (d := d + 2) (t := t)
  rw [decide_eq_false h5] at g
  have g2 := m_140n (d := d) h5
  show G (d + 3) 141 0 [some (.ref 160), none] [] (yemb t) Q ↔ _
  simp only [s_141_0, s_141_1 yO_160, s_141_2, s_141_3 yO_160, s_141_4, s_141_37, g, g2, ifb, Bool.false_eq_true, if_false, if_true, Gk_v, Gk_n, xcat_nil, xcat_i, xcat_r, xcat_l, xcat_d, Nat.zero_le, Nat.reduceAdd, Nat.reduceLeDiff, true_and, and_true, ykl_i, ykl_r, ykl_n, ykl_l]
end

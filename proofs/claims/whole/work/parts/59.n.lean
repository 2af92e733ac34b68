/-! ===== the model's reader ===== -/
/-- of the model's fields ints alone change -/
abbrev yFe (t u : yT) : Prop := yFr (fun a => a = 160) t u ∧ u.L 160 = t.L 160
theorem yFe_rfl {t : yT} : yFe t t := ⟨yFr.rfl', rfl⟩
theorem yFe_s1 {t : yT} {j : Nat} {v : Int32} : yFe t (t.s1 160 j v) := ⟨yFr_s1 rfl, rfl⟩
theorem yFe_tr {t u v : yT} (h : yFe t u) (h' : yFe u v) : yFe t v := ⟨h.1.trans h'.1 (fun a h => h.elim id id), h'.2.trans h.2⟩
theorem yFe.A {t u : yT} (h : yFe t u) {a : Nat} (ha : ¬ a = 160) : u.A a = t.A a := h.1.A ha
abbrev yYt (t : yT) (n : Nat) (B : Nat → Nat) : Prop := n ≤ 600 ∧ (t.A 160 3 = yI n ∧ ∀ i, i < n → B i < 256 ∧ t.A 161 i = yI (B i))
def ybt (n : Nat) (B : Nat → Nat) (q : Nat) : Int32 := if q < n then yI (B q) else -1
def ysk (n : Nat) (B : Nat → Nat) (m : Nat) : Nat := yw ysp B (n - m) m
theorem ysk_le {n : Nat} {B : Nat → Nat} {m : Nat} (h : m ≤ n) : m ≤ ysk n B m ∧ ysk n B m ≤ n := by
  have := yw_le (P := ysp) (B := B) (n - m) m
  unfold ysk
  omega
/-- the model's value of a run of digits -/
def yvm (B : Nat → Nat) : Nat → Nat → Nat → Nat
  | 0, _, v => v
  | m + 1, i, v => if ydg (B i) = true then yvm B m (i + 1) (min 100000000 (10 * v + B i - 48)) else v
theorem yv_both {B : Nat → Nat} : ∀ m i v w, ((v = w ∧ v < 1000000) ∨ (1000000 ≤ v ∧ 1000000 ≤ w)) → ((yvl B m i v = yvm B m i w ∧ yvl B m i v < 1000000) ∨ (1000000 ≤ yvl B m i v ∧ 1000000 ≤ yvm B m i w)) := by
  intro m
  induction m with
  | zero => intro i v w h; exact h
  | succ m ih =>
    intro i v w h
    rw [yvl, yvm]
    split
    · rename_i hd
      have hd' : 48 ≤ B i ∧ B i ≤ 57 := of_decide_eq_true hd
      apply ih
      rcases h with ⟨rfl, h⟩ | ⟨h1, h2⟩
      · rw [if_neg (by omega)]
        by_cases h3 : 10 * v + B i - 48 < 1000000
        · exact Or.inl ⟨by omega, h3⟩
        · exact Or.inr ⟨by omega, by omega⟩
      · rw [if_pos h1]
        exact Or.inr ⟨by omega, by omega⟩
    · exact h
theorem yvl_lt {B : Nat → Nat} : ∀ m i v, v < 10000000 → yvl B m i v < 10000000 := by
  intro m
  induction m with
  | zero => intro i v h; exact h
  | succ m ih =>
    intro i v h
    rw [yvl]
    split
    · rename_i hd
      have hd' : 48 ≤ B i ∧ B i ≤ 57 := of_decide_eq_true hd
      apply ih
      split <;> omega
    · exact h
theorem yvm_lt {B : Nat → Nat} : ∀ m i v, v ≤ 100000000 → yvm B m i v ≤ 100000000 := by
  intro m
  induction m with
  | zero => intro i v h; exact h
  | succ m ih =>
    intro i v h
    rw [yvm]
    split
    · exact ih _ _ (by omega)
    · exact h
theorem yI_in {a b c : Nat} (ha : a < 2147483648) (hb : b < 2147483648) (hc : c < 2147483648) : decide (yI a ≤ yI b ∧ yI b ≤ yI c) = decide (a ≤ b ∧ b ≤ c) := by
  congr 1
  exact propext ⟨fun h => ⟨(yI_le ha hb).mp h.1, (yI_le hb hc).mp h.2⟩, fun h => ⟨(yI_le ha hb).mpr h.1, (yI_le hb hc).mpr h.2⟩⟩
section
variable {d : Nat} {n : Nat} {B : Nat → Nat}
theorem m_130 {t : yT} (Y : yYt t n B) {i : Nat} (hi : i < 2147483648) : Ra d 130 [.ref 160, .int (yI i)] (yemb t) (.inl (some (.int (ybt n B i)))) (yemb t) := by
  intro Q
  have h600 := Y.1
  show G d 130 0 [some (.ref 160), some (.int (yI i))] [] (yemb t) Q ↔ _
  unfold ybt
  by_cases h : i < n
  · have h1 : ¬ yI n ≤ yI i := fun h' => absurd ((yI_le (by omega) (by omega)).mp h') (by omega)
    have h2 : yix (yI i) 600 := yix_I (by omega) (by omega)
    have h3 : (yI i).toNatClampNeg = i := yI_clamp (by omega)
    simp only [s_130_0, s_130_1, s_130_2, s_130_3, s_130_4, s_130_5, s_130_6, s_130_7, s_130_8, s_130_9, s_130_10, yO_160, yA_161, yn_161, Y.2.1, h1, h, h2, h3, (Y.2.2 i h).2, if_true, if_false, Gk_v, Gk_n, xcat_nil, xcat_i, xcat_r, xcat_l, xcat_d, Nat.zero_le, Nat.reduceAdd, Nat.reduceLeDiff, true_and, and_true, ykl_i, ykl_r, ykl_n, ykl_l]
  · have h1 : yI n ≤ yI i := (yI_le (by omega) (by omega)).mpr (by omega)
    simp only [s_130_0, s_130_1, s_130_2, s_130_3, s_130_4, s_130_5, s_130_6, s_130_7, s_130_8, s_130_9, s_130_10, yO_160, Y.2.1, h1, h, if_true, if_false, Gk_v, Gk_n, xcat_nil, xcat_i, xcat_r, xcat_l, xcat_d, Nat.zero_le, Nat.reduceAdd, Nat.reduceLeDiff, true_and, and_true, ykl_i, ykl_r, ykl_n, ykl_l]
theorem ybt_is {q c : Nat} (Y : ∀ i, i < n → B i < 256) (hc : c < 256) : ybt n B q = yI c ↔ q < n ∧ B q = c := by
  unfold ybt
  by_cases h : q < n
  · rw [if_pos h, yI_inj (by have := Y q h; omega) (by omega)]
    exact ⟨fun h' => ⟨h, h'⟩, fun h' => h'.2⟩
  · rw [if_neg h]
    constructor
    · intro h'
      have := yI_nneg (n := c) (by omega)
      rw [← h'] at this
      exact absurd (by decide) this
    · intro h'
      exact absurd h'.1 h
theorem yYt_4 {t : yT} {v : Int32} {j : Nat} (Y : yYt t n B) (hj : j ≠ 3) : yYt (t.s1 160 j v) n B := by
  refine ⟨Y.1, ?_, fun i hi => ?_⟩
  · rw [ys1_upd, yupd_ne (Ne.symm hj)]
    exact Y.2.1
  · rw [ys1_ne (by decide)]
    exact Y.2.2 i hi
theorem l_131 : ∀ m i (t : yT), i + m = n → yYt t n B → t.A 160 4 = yI i → ∃ u, Ga (d + 1) 131 0 [some (.ref 160)] [] (yemb t) (.inl (some (.int (ybt n B (yw ysp B m i))))) (yemb u) ∧ (u.A 160 4 = yI (yw ysp B m i) ∧ ((∀ j, j ≠ 4 → u.A 160 j = t.A 160 j) ∧ yFe t u)) := by
  intro m
  induction m with
  | zero =>
    intro i t hi Y h4
    have h600 := Y.1
    have g := m_130 (d := d) Y (i := i) (by omega)
    have e : ybt n B i = -1 := by
      unfold ybt
      rw [if_neg (by omega)]
    rw [e] at g
    refine ⟨t, fun Q => ?_, h4, fun _ _ => rfl, yFe_rfl⟩
    have c1 : ¬ (-1 : Int32) = 32 := by decide
    show _ ↔ Q (.inl (some (.int (ybt n B i)))) _
    rw [e, s_131_0]
    simp only [s_131_1, s_131_2 yO_160, s_131_3 yO_160, s_131_4, s_131_5, s_131_13, s_131_14, s_131_15 yO_160, s_131_16 yO_160, s_131_17, h4, g, c1, ne_eq, not_false_eq_true, if_true, Gk_v, Gk_n, xcat_nil, xcat_i, xcat_r, xcat_l, xcat_d, Nat.zero_le, Nat.reduceAdd, Nat.reduceLeDiff, true_and, and_true, ykl_i, ykl_r, ykl_n, ykl_l]
  | succ m ih =>
    intro i t hi Y h4
    have h600 := Y.1
    have g := m_130 (d := d) Y (i := i) (by omega)
    have hb := (Y.2.2 i (by omega)).1
    have h7 : yI i + 1 = yI (i + 1) := yI_add
    rw [yw]
    by_cases hc : ysp (B i) = true
    · rw [if_pos hc]
      have hc' : B i = 32 := of_decide_eq_true hc
      have e : ybt n B i = 32 := by
        unfold ybt
        rw [if_pos (by omega), hc']
        rfl
      rw [e] at g
      obtain ⟨u, hu, u4, uj, Fu⟩ := ih (i + 1) (t.s1 160 4 (yI (i + 1))) (by omega) (yYt_4 Y (by decide)) ys1_same
      refine ⟨u, fun Q => ?_, u4, fun j hj => ?_, yFe_tr yFe_s1 Fu⟩
      · rw [s_131_0]
        simp only [s_131_1, s_131_2 yO_160, s_131_3 yO_160, s_131_4, s_131_5, s_131_6, s_131_7, s_131_8 yO_160, s_131_9, s_131_10, s_131_11 yO_160, s_131_12, h4, g, ne_eq, not_true_eq_false, if_false, h7, hu, Gk_v, Gk_n, xcat_nil, xcat_i, xcat_r, xcat_l, xcat_d, Nat.zero_le, Nat.reduceAdd, Nat.reduceLeDiff, true_and, and_true, ykl_i, ykl_r, ykl_n, ykl_l]
      · rw [uj j hj, ys1_upd, yupd_ne hj]
    · rw [if_neg hc]
      have c1 : ¬ ybt n B i = 32 := by
        intro h
        have h' := (ybt_is (fun i hi => (Y.2.2 i hi).1) (c := 32) (by decide)).mp h
        exact hc (decide_eq_true h'.2)
      refine ⟨t, fun Q => ?_, h4, fun _ _ => rfl, yFe_rfl⟩
      rw [s_131_0]
      simp only [s_131_1, s_131_2 yO_160, s_131_3 yO_160, s_131_4, s_131_5, s_131_13, s_131_14, s_131_15 yO_160, s_131_16 yO_160, s_131_17, h4, g, c1, ne_eq, not_false_eq_true, if_true, Gk_v, Gk_n, xcat_nil, xcat_i, xcat_r, xcat_l, xcat_d, Nat.zero_le, Nat.reduceAdd, Nat.reduceLeDiff, true_and, and_true, ykl_i, ykl_r, ykl_n, ykl_l]
theorem m_131 {t : yT} (Y : yYt t n B) {m : Nat} (hm : m ≤ n) (h4 : t.A 160 4 = yI m) : ∃ u, Ra (d + 1) 131 [.ref 160] (yemb t) (.inl (some (.int (ybt n B (ysk n B m))))) (yemb u) ∧ (u.A 160 4 = yI (ysk n B m) ∧ ((∀ j, j ≠ 4 → u.A 160 j = t.A 160 j) ∧ yFe t u)) :=
  l_131 (n - m) m t (by omega) Y h4
theorem m_132 {t : yT} : Ra d 132 [.ref 160] (yemb t) (.inl (some (.int (yb (decide (t.A 160 5 = 0)))))) (yemb t) := by
  intro Q
  show G d 132 0 [some (.ref 160)] [] (yemb t) Q ↔ _
  by_cases h : t.A 160 5 = 0
  · simp only [s_132_0, s_132_1, s_132_2, s_132_3, s_132_4, s_132_5, s_132_6, yO_160, h, ne_eq, not_true_eq_false, if_false, ybo_1, decide_true, yb, if_true, Gk_v, Gk_n, xcat_nil, xcat_i, xcat_r, xcat_l, xcat_d, Nat.zero_le, Nat.reduceAdd, Nat.reduceLeDiff, true_and, and_true, ykl_i, ykl_r, ykl_n, ykl_l]
  · simp only [s_132_0, s_132_1, s_132_2, s_132_3, s_132_4, s_132_5, s_132_6, yO_160, h, ne_eq, not_false_eq_true, if_true, ybo_0, decide_false, yb, Bool.false_eq_true, if_false, Gk_v, Gk_n, xcat_nil, xcat_i, xcat_r, xcat_l, xcat_d, Nat.zero_le, Nat.reduceAdd, Nat.reduceLeDiff, true_and, and_true, ykl_i, ykl_r, ykl_n, ykl_l]
theorem m_133 {t : yT} {c a : Int32} (h : t.A 160 5 = 0) : Ra d 133 [.ref 160, .int c, .int a] (yemb t) (.inl none) (yemb ((t.s1 160 5 c).s1 160 6 a)) := by
  intro Q
  show G d 133 0 [some (.ref 160), some (.int c), some (.int a)] [] (yemb t) Q ↔ _
  simp only [s_133_0, s_133_1, s_133_2, s_133_3, s_133_4, s_133_5, s_133_6, s_133_7, s_133_8, s_133_9, s_133_10, yO_160, h, if_true, Gk_v, Gk_n, xcat_nil, xcat_i, xcat_r, xcat_l, xcat_d, Nat.zero_le, Nat.reduceAdd, Nat.reduceLeDiff, true_and, and_true, ykl_i, ykl_r, ykl_n, ykl_l]
theorem m_133n {t : yT} {c a : Int32} (h : ¬ t.A 160 5 = 0) : Ra d 133 [.ref 160, .int c, .int a] (yemb t) (.inl none) (yemb t) := by
  intro Q
  show G d 133 0 [some (.ref 160), some (.int c), some (.int a)] [] (yemb t) Q ↔ _
  simp only [s_133_0, s_133_1, s_133_2, s_133_3, s_133_4, s_133_5, s_133_6, s_133_7, s_133_8, s_133_9, s_133_10, yO_160, h, if_false, Gk_v, Gk_n, xcat_nil, xcat_i, xcat_r, xcat_l, xcat_d, Nat.zero_le, Nat.reduceAdd, Nat.reduceLeDiff, true_and, and_true, ykl_i, ykl_r, ykl_n, ykl_l]
theorem m_134 {x : Int32} {σ : xS} : Ra (d + 1) 134 [.int x] σ (.inl (some (.int (yb (decide (48 ≤ x ∧ x ≤ 57)))))) σ := by
  intro Q
  show G (d + 1) 134 0 [some (.int x)] [] σ Q ↔ _
  simp only [s_134_0, s_134_1, s_134_2, s_134_3, s_134_4, m_125, ybo_b, Gk_v, Gk_n, xcat_nil, xcat_i, xcat_r, xcat_l, xcat_d, Nat.zero_le, Nat.reduceAdd, Nat.reduceLeDiff, true_and, and_true, ykl_i, ykl_r, ykl_n, ykl_l]
theorem ybt_dg {q : Nat} (Y : ∀ i, i < n → B i < 256) : decide ((48 : Int32) ≤ ybt n B q ∧ ybt n B q ≤ 57) = (decide (q < n) && ydg (B q)) := by
  unfold ybt
  by_cases h : q < n
  · have := Y q h
    rw [if_pos h, decide_eq_true h, Bool.true_and]
    exact yI_in (a := 48) (c := 57) (by decide) (by omega) (by decide)
  · rw [if_neg h, decide_eq_false h]
    rfl
end

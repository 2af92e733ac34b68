/-! ===== the model's reader ===== -/
/-- of the model's fields ints alone change -/
abbrev yFe (t u : yT) : Prop := yFr (fun a => a = 160) t u ∧ u.L 160 = t.L 160
theorem yFe_rfl {t : yT} : yFe t t := ⟨yFr.rfl', rfl⟩
theorem yFe_s1 {t : yT} {j : Nat} {v : Int32} : yFe t (t.s1 160 j v) := ⟨yFr_s1 rfl, rfl⟩
theorem yFe_tr {t u v : yT} (h : yFe t u) (h' : yFe u v) : yFe t v := ⟨h.1.trans h'.1 (fun a h => h.elim id id), h'.2.trans h.2⟩
theorem yFe.A {t u : yT} (h : yFe t u) {a : Nat} (ha : ¬ a = 160) : u.A a = t.A a := h.1.A ha
abbrev yYt (t : yT) (n : Nat) (B : Nat → Nat) : Prop := n ≤ 600 ∧ (t.A 160 3 = yI n ∧ ∀ i, i < n → B i < 256 ∧ t.A 161 i = yI (B i))
def ybt (n : Nat) (B : Nat → Nat) (q : Nat) : Int32 := if q < n then yI (B q) else -1
def ysk (n : Nat) (B : Nat → Nat) (m : Nat) : Nat := yw ysp B (n - m) m
theorem ysk_le {n : Nat} {B : Nat → Nat} {m : Nat} (h : m ≤ n) : m ≤ ysk n B m ∧ ysk n B m ≤ n := by
  have := yw_le (P := ysp) (B := B) (n - m) m
  unfold ysk
  omega
/-- the model's value of a run of digits -/
def yvm (B : Nat → Nat) : Nat → Nat → Nat → Nat
  | 0, _, v => v
  | m + 1, i, v => if ydg (B i) = true then yvm B m (i + 1) (min 100000000 (10 * v + B i - 48)) else v
theorem yv_both {B : Nat → Nat} : ∀ m i v w, ((v = w ∧ v < 1000000) ∨ (1000000 ≤ v ∧ 1000000 ≤ w)) → ((yvl B m i v = yvm B m i w ∧ yvl B m i v < 1000000) ∨ (1000000 ≤ yvl B m i v ∧ 1000000 ≤ yvm B m i w)) := by
  intro m
  induction m with
  | zero => intro i v w h; exact h
  | succ m ih =>
    intro i v w h
    rw [yvl, yvm]
    split
    · rename_i hd
      have hd' : 48 ≤ B i ∧ B i ≤ 57 := of_decide_eq_true hd
      apply ih
      rcases h with ⟨rfl, h⟩ | ⟨h1, h2⟩
      · rw [if_neg (by omega)]
        by_cases h3 : 10 * v + B i - 48 < 1000000
        · exact Or.inl ⟨by omega, h3⟩
        · exact Or.inr ⟨by omega, by omega⟩
      · rw [if_pos h1]
        exact Or.inr ⟨by omega, by omega⟩
    · exact h
theorem yvl_lt {B : Nat → Nat} : ∀ m i v, v < 10000000 → yvl B m i v < 10000000 := by
  intro m
  induction m with
  | zero => intro i v h; exact h
  | succ m ih =>
    intro i v h
    rw [yvl]
    split
    · rename_i hd
      have hd' : 48 ≤ B i ∧ B i ≤ 57 := of_decide_eq_true hd
      apply ih
      split <;> omega
    · exact h
theorem yvm_lt {B : Nat → Nat} : ∀ m i v, v ≤ 100000000 → yvm B m i v ≤ 100000000 := by
  intro m
  induction m with
  | zero => intro i v h; exact h
  | succ m ih =>
    intro i v h
    rw [yvm]
    split
    · exact ih _ _ (by omega)
    · exact h
theorem yI_in {a b c : Nat} (ha : a < 2147483648) (hb : b < 2147483648) (hc : c < 2147483648) : decide (yI a ≤ yI b ∧ yI b ≤ yI c) = decide (a ≤ b ∧ b ≤ c) := by
  congr 1
  exact propext ⟨fun h => ⟨(yI_le ha hb).mp h.1, (yI_le hb hc).mp h.2⟩, fun h => ⟨(yI_le ha hb).mpr h.1, (yI_le hb hc).mpr h.2⟩⟩
section
variable {d : Nat} {n : Nat} {B : Nat → Nat}
theorem ybt_is {q c : Nat} (Y : ∀ i, i < n → B i < 256) (hc : c < 256) : ybt n B q = yI c ↔ q < n ∧ B q = c := by
  unfold ybt
  by_cases h : q < n
  · rw [if_pos h, yI_inj (by have := Y q h; omega) (by omega)]
    exact ⟨fun h' => ⟨h, h'⟩, fun h' => h'.2⟩
  · rw [if_neg h]
    constructor
    · intro h'
      have := yI_nneg (n := c) (by omega)
      rw [← h'] at this
      exact absurd (by decide) this
    · intro h'
      exact absurd h'.1 h
theorem yYt_4 {t : yT} {v : Int32} {j : Nat} (Y : yYt t n B) (hj : j ≠ 3) : yYt (t.s1 160 j v) n B := by
  refine ⟨Y.1, ?_, fun i hi => ?_⟩
  · rw [ys1_upd, yupd_ne (Ne.symm hj)]
    exact Y.2.1
  · rw [ys1_ne (by decide)]
    exact Y.2.2 i hi
theorem ybt_dg {q : Nat} (Y : ∀ i, i < n → B i < 256) : decide ((48 : Int32) ≤ ybt n B q ∧ ybt n B q ≤ 57) = (decide (q < n) && ydg (B q)) := by
  unfold ybt
  by_cases h : q < n
  · have := Y q h
    rw [if_pos h, decide_eq_true h, Bool.true_and]
    exact yI_in (a := 48) (c := 57) (by decide) (by omega) (by decide)
  · rw [if_neg h, decide_eq_false h]
    rfl
end

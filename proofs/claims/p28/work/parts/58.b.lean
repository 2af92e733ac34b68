/-! ===== subsets in their order ===== -/
/-- the i-th subset of w, of n bits -/
def ypd : Nat → Nat → Nat → Nat
  | 0, _, _ => 0
  | n + 1, w, i => if w % 2 = 1 then i % 2 + 2 * ypd n (w / 2) (i / 2) else 2 * ypd n (w / 2) i
theorem ypd_sub : ∀ n w i, w < 2 ^ n → ypd n w i ≤ w := by
  intro n
  induction n with
  | zero =>
    intro w i h
    simp only [Nat.pow_zero] at h
    rw [ypd]
    omega
  | succ n ih =>
    intro w i h
    rw [Nat.pow_succ] at h
    rw [ypd]
    split
    · have := ih (w / 2) (i / 2) (by omega)
      omega
    · have := ih (w / 2) i (by omega)
      omega
theorem ypd_0 : ∀ n w, ypd n w 0 = 0 := by
  intro n
  induction n with
  | zero => intro w; rfl
  | succ n ih =>
    intro w
    rw [ypd]
    split
    · rw [Nat.zero_mod, Nat.zero_div, ih]
    · rw [ih]
theorem yand2 (a b x y : Nat) (hx : x < 2) (hy : y < 2) : (2 * a + x) &&& (2 * b + y) = 2 * (a &&& b) + (x &&& y) := by
  have hm := Nat.and_mod_two_pow (a := 2 * a + x) (b := 2 * b + y) (n := 1)
  have hd := Nat.and_div_two_pow (a := 2 * a + x) (b := 2 * b + y) (n := 1)
  have e1 : (2 : Nat) ^ 1 = 2 := rfl
  rw [e1] at hm hd
  rw [show (2 * a + x) % 2 = x by omega, show (2 * b + y) % 2 = y by omega] at hm
  rw [show (2 * a + x) / 2 = a by omega, show (2 * b + y) / 2 = b by omega] at hd
  omega
theorem yand_b : ∀ x, x < 2 → ∀ y, y < 2 → x &&& y = x * y := by decide
theorem ypd_o (n v i : Nat) : ypd (n + 1) (2 * v + 1) i = i % 2 + 2 * ypd n v (i / 2) := by
  rw [ypd, if_pos (by omega), show (2 * v + 1) / 2 = v by omega]
theorem ypd_e (n v i : Nat) : ypd (n + 1) (2 * v) i = 2 * ypd n v i := by
  rw [ypd, if_neg (by omega), show 2 * v / 2 = v by omega]
theorem ypc_o (n v : Nat) : ypc (n + 1) (2 * v + 1) = ypc n v + 1 := by
  rw [ypc, show (2 * v + 1) % 2 = 1 by omega, show (2 * v + 1) / 2 = v by omega, Nat.add_comm]
theorem ypc_e (n v : Nat) : ypc (n + 1) (2 * v) = ypc n v := by
  rw [ypc, show 2 * v % 2 = 0 by omega, show 2 * v / 2 = v by omega, Nat.zero_add]
theorem yeo (w : Nat) : (∃ v, w = 2 * v + 1) ∨ ∃ v, w = 2 * v := by
  by_cases h : w % 2 = 1
  · exact Or.inl ⟨w / 2, by omega⟩
  · exact Or.inr ⟨w / 2, by omega⟩
/-- all ones but those of w that s lacks, cut to w, are s -/
theorem ypd_not : ∀ n w i, w < 2 ^ n → (2 ^ n - 1 - (w - ypd n w i)) &&& w = ypd n w i := by
  intro n
  induction n with
  | zero =>
    intro w i h
    simp only [Nat.pow_zero] at h
    have : w = 0 := by omega
    subst this
    rw [ypd]
    exact Nat.and_zero _
  | succ n ih =>
    intro w i h
    rw [Nat.pow_succ] at h
    have hp : 1 ≤ 2 ^ n := Nat.one_le_two_pow
    rcases yeo w with ⟨v, rfl⟩ | ⟨v, rfl⟩
    · rw [ypd_o]
      have h1 := ih v (i / 2) (by omega)
      have h2 := ypd_sub n v (i / 2) (by omega)
      generalize ypd n v (i / 2) = s at *
      have hi := Nat.mod_lt i (show 0 < 2 by decide)
      have e1 : 2 ^ (n + 1) - 1 - (2 * v + 1 - (i % 2 + 2 * s)) = 2 * (2 ^ n - 1 - (v - s)) + i % 2 := by
        rw [Nat.pow_succ]
        omega
      rw [e1, yand2 _ _ _ _ hi (by decide), yand_b _ hi 1 (by decide), h1]
      omega
    · rw [ypd_e]
      have h1 := ih v i (by omega)
      have h2 := ypd_sub n v i (by omega)
      generalize ypd n v i = s at *
      have e1 : 2 ^ (n + 1) - 1 - (2 * v - 2 * s) = 2 * (2 ^ n - 1 - (v - s)) + 1 := by
        rw [Nat.pow_succ]
        omega
      have e3 := yand2 (2 ^ n - 1 - (v - s)) v 1 0 (by decide) (by decide)
      rw [show 2 * v + 0 = 2 * v by omega] at e3
      rw [e1, e3, h1]
      rfl
/-- the next subset -/
theorem ypd_next : ∀ n w i, w < 2 ^ n → i + 1 < 2 ^ ypc n w → ((ypd n w i + (2 ^ n - w)) % 2 ^ n) &&& w = ypd n w (i + 1) := by
  intro n
  induction n with
  | zero =>
    intro w i h hi
    simp only [ypc, Nat.pow_zero] at hi
    omega
  | succ n ih =>
    intro w i h hi
    rw [Nat.pow_succ] at h
    have hp : 1 ≤ 2 ^ n := Nat.one_le_two_pow
    rcases yeo w with ⟨v, rfl⟩ | ⟨v, rfl⟩
    · rw [ypc_o, Nat.pow_succ] at hi
      have h2 := ypd_sub n v (i / 2) (by omega)
      rw [ypd_o, ypd_o]
      by_cases hodd : i % 2 = 1
      · have h1 := ih v (i / 2) (by omega) (by omega)
        rw [show (i + 1) / 2 = i / 2 + 1 by omega, show (i + 1) % 2 = 0 by omega, hodd, Nat.zero_add, ← h1]
        generalize ypd n v (i / 2) = s at *
        have e1 : (1 + 2 * s + (2 ^ (n + 1) - (2 * v + 1))) % 2 ^ (n + 1) = 2 * ((s + (2 ^ n - v)) % 2 ^ n) + 0 := by
          rw [Nat.pow_succ, show 1 + 2 * s + (2 ^ n * 2 - (2 * v + 1)) = 2 * (s + (2 ^ n - v)) by omega, Nat.mul_comm (2 ^ n) 2, Nat.mul_mod_mul_left, Nat.add_zero]
        rw [e1, yand2 _ _ _ _ (by decide) (by decide)]
        rfl
      · have h1 := ypd_not n v (i / 2) (by omega)
        rw [show (i + 1) / 2 = i / 2 by omega, show (i + 1) % 2 = 1 by omega, show i % 2 = 0 by omega, Nat.zero_add]
        generalize ypd n v (i / 2) = s at *
        have e1 : (2 * s + (2 ^ (n + 1) - (2 * v + 1))) % 2 ^ (n + 1) = 2 * (2 ^ n - 1 - (v - s)) + 1 := by
          rw [Nat.pow_succ, Nat.mod_eq_of_lt (by omega)]
          omega
        rw [e1, yand2 _ _ _ _ (by decide) (by decide), show (1 : Nat) &&& 1 = 1 from rfl, h1]
        omega
    · rw [ypc_e] at hi
      have h1 := ih v i (by omega) hi
      have h2 := ypd_sub n v i (by omega)
      rw [ypd_e, ypd_e, ← h1]
      generalize ypd n v i = s at *
      have e1 : (2 * s + (2 ^ (n + 1) - 2 * v)) % 2 ^ (n + 1) = 2 * ((s + (2 ^ n - v)) % 2 ^ n) + 0 := by
        rw [Nat.pow_succ, show 2 * s + (2 ^ n * 2 - 2 * v) = 2 * (s + (2 ^ n - v)) by omega, Nat.mul_comm (2 ^ n) 2, Nat.mul_mod_mul_left, Nat.add_zero]
      have e3 := yand2 ((s + (2 ^ n - v)) % 2 ^ n) v 0 0 (by decide) (by decide)
      rw [show 2 * v + 0 = 2 * v by omega] at e3
      rw [e1, e3]
      rfl
theorem ypd_lt : ∀ n w i j, i < j → j < 2 ^ ypc n w → ypd n w i < ypd n w j := by
  intro n
  induction n with
  | zero =>
    intro w i j h hj
    simp only [ypc, Nat.pow_zero] at hj
    omega
  | succ n ih =>
    intro w i j h hj
    rcases yeo w with ⟨v, rfl⟩ | ⟨v, rfl⟩
    · rw [ypc_o, Nat.pow_succ] at hj
      rw [ypd_o, ypd_o]
      by_cases e : i / 2 = j / 2
      · rw [e]
        omega
      · have h1 := ih v (i / 2) (j / 2) (by omega) (by omega)
        omega
    · rw [ypc_e] at hj
      rw [ypd_e, ypd_e]
      have h1 := ih v i j h hj
      omega
theorem ypd_pc : ∀ n w i, i < 2 ^ ypc n w → ypc n (ypd n w i) = ypc (ypc n w) i := by
  intro n
  induction n with
  | zero => intro w i h; simp [ypd, ypc]
  | succ n ih =>
    intro w i h
    rcases yeo w with ⟨v, rfl⟩ | ⟨v, rfl⟩
    · rw [ypc_o, Nat.pow_succ] at h
      have h1 := ih v (i / 2) (by omega)
      rw [ypc_o, ypd_o]
      simp only [ypc]
      rw [← h1, show (i % 2 + 2 * ypd n v (i / 2)) % 2 = i % 2 by omega, show (i % 2 + 2 * ypd n v (i / 2)) / 2 = ypd n v (i / 2) by omega]
    · rw [ypc_e] at h
      have h1 := ih v i h
      rw [ypc_e, ypd_e, ypc_e, h1]
theorem ypd_bit : ∀ n w i p, (ypd n w i).testBit p = (decide (p < n) && (w.testBit p && i.testBit (ycn w.testBit p))) := by
  intro n
  induction n with
  | zero => intro w i p; simp [ypd]
  | succ n ih =>
    intro w i p
    rw [ypd]
    cases p with
    | zero =>
      rw [Nat.testBit_zero, Nat.testBit_zero]
      by_cases hw : w % 2 = 1
      · rw [if_pos hw]
        simp [hw, ycn, Nat.testBit_zero, Nat.add_mul_mod_self_left]
      · rw [if_neg hw]
        simp [hw]
    | succ p =>
      rw [Nat.testBit_succ, Nat.testBit_succ, ycn_low]
      have e : (fun i => w.testBit (i + 1)) = (w / 2).testBit := by
        funext q
        rw [Nat.testBit_succ]
      have ed : decide (p + 1 < n + 1) = decide (p < n) := by
        congr 1
        exact propext (by omega)
      rw [e, ed, Nat.testBit_zero]
      by_cases hw : w % 2 = 1
      · rw [if_pos hw, show (i % 2 + 2 * ypd n (w / 2) (i / 2)) / 2 = ypd n (w / 2) (i / 2) by omega, ih]
        rw [decide_eq_true hw, if_pos rfl, Nat.add_comm 1, Nat.testBit_succ]
      · rw [if_neg hw, show 2 * ypd n (w / 2) i / 2 = ypd n (w / 2) i by omega, ih]
        rw [decide_eq_false hw, if_neg (by decide), Nat.zero_add]

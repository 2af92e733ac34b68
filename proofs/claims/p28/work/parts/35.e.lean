/-! ===== numbers of curves ===== -/
theorem yJ_toInt {v : Int} (h : -9000000000000000000 ≤ v ∧ v ≤ 9000000000000000000) : (Int64.ofInt v).toInt = v := Int64.toInt_ofInt_of_le (by omega) (by omega)
theorem yi_toInt {v : Int} (h : -2000000000 ≤ v ∧ v ≤ 2000000000) : (Int32.ofInt v).toInt = v := Int32.toInt_ofInt_of_le (by omega) (by omega)
theorem yi_J {v : Int} (h : -2000000000 ≤ v ∧ v ≤ 2000000000) : (Int32.ofInt v).toInt64 = Int64.ofInt v := by
  apply Int64.toInt_inj.mp
  rw [Int32.toInt_toInt64, yi_toInt h, yJ_toInt (by omega)]
theorem yI_i {n : Nat} : yI n = Int32.ofInt n := rfl
theorem yi_of (x : Int32) : x = Int32.ofInt x.toInt := (Int32.ofInt_toInt x).symm
theorem yJ_lt {a b : Int} (ha : -9000000000000000000 ≤ a ∧ a ≤ 9000000000000000000) (hb : -9000000000000000000 ≤ b ∧ b ≤ 9000000000000000000) : Int64.ofInt a < Int64.ofInt b ↔ a < b := by
  rw [Int64.lt_iff_toInt_lt, yJ_toInt ha, yJ_toInt hb]
theorem yJ_eq {a b : Int} (ha : -9000000000000000000 ≤ a ∧ a ≤ 9000000000000000000) (hb : -9000000000000000000 ≤ b ∧ b ≤ 9000000000000000000) : Int64.ofInt a = Int64.ofInt b ↔ a = b := by
  constructor
  · intro h
    have := congrArg Int64.toInt h
    rwa [yJ_toInt ha, yJ_toInt hb] at this
  · intro h
    rw [h]
theorem yi_lt {a b : Int} (ha : -2000000000 ≤ a ∧ a ≤ 2000000000) (hb : -2000000000 ≤ b ∧ b ≤ 2000000000) : Int32.ofInt a < Int32.ofInt b ↔ a < b := by
  rw [Int32.lt_iff_toInt_lt, yi_toInt ha, yi_toInt hb]
theorem yi_le {a b : Int} (ha : -2000000000 ≤ a ∧ a ≤ 2000000000) (hb : -2000000000 ≤ b ∧ b ≤ 2000000000) : Int32.ofInt a ≤ Int32.ofInt b ↔ a ≤ b := by
  rw [Int32.le_iff_toInt_le, yi_toInt ha, yi_toInt hb]
theorem yJ_div {a b : Int} (ha : -9000000000000000000 ≤ a ∧ a ≤ 9000000000000000000) (hb : -9000000000000000000 ≤ b ∧ b ≤ 9000000000000000000) : Int64.ofInt a / Int64.ofInt b = Int64.ofInt (Int.tdiv a b) := by
  apply Int64.toInt_inj.mp
  have hne : Int64.ofInt a ≠ Int64.minValue := by
    intro h
    have := congrArg Int64.toInt h
    rw [yJ_toInt ha, Int64.toInt_minValue] at this
    omega
  have h1 : (Int.tdiv a b).natAbs ≤ a.natAbs := by
    rw [Int.natAbs_tdiv]
    exact Nat.div_le_self _ _
  rw [Int64.toInt_div_of_ne_left _ _ hne, yJ_toInt ha, yJ_toInt hb, yJ_toInt (by omega)]
/-! ===== what a curve comes to ===== -/
def yclim (v : Int) : Int := if 1000000 < v then 1000000 else if v < -1000000 then -1000000 else v
def yop (c : Int32) (a b : Int) : Int := if c = -3 then a + b else if c = -4 then a - b else if c = -5 then a * b else if b = 0 then 0 else Int.tdiv a b
def yitem (c : Int32) (x l : Int) : Int := if 0 ≤ c then c.toInt else if c = -1 then x else l
def yst (g : Nat → Int32) (x l : Int) : Nat → (Nat → Int)
  | 0 => fun _ => 0
  | i + 1 => fun k => if -2 ≤ g i then (if k = ydep g i then yitem (g i) x l else yst g x l i k) else (if k + 2 = ydep g i then yclim (yop (g i) (yst g x l i k) (yst g x l i (k + 1))) else yst g x l i k)
abbrev ysm (v : Int) : Prop := -1000000 ≤ v ∧ v ≤ 1000000
theorem yclim_sm (v : Int) : ysm (yclim v) := by
  unfold yclim
  split
  · exact ⟨by decide, by decide⟩
  · split
    · exact ⟨by decide, by decide⟩
    · constructor <;> omega
theorem yop_big {c : Int32} {a b : Int} (ha : ysm a) (hb : ysm b) : -1000000000000 ≤ yop c a b ∧ yop c a b ≤ 1000000000000 := by
  unfold yop
  split
  · constructor <;> omega
  · split
    · constructor <;> omega
    · split
      · have h1 : (a * b).natAbs ≤ 1000000 * 1000000 := by
          rw [Int.natAbs_mul]
          exact Nat.mul_le_mul (by omega) (by omega)
        omega
      · split
        · exact ⟨by decide, by decide⟩
        · have h1 : (Int.tdiv a b).natAbs ≤ a.natAbs := by
            rw [Int.natAbs_tdiv]
            exact Nat.div_le_self _ _
          omega
theorem yitem_sm {c : Int32} {x l : Int} (hc : c < 10000) (hx : ysm x) (hl : ysm l) : ysm (yitem c x l) := by
  unfold yitem
  split
  · rename_i h
    have h1 := Int32.lt_iff_toInt_lt.mp hc
    have h2 := Int32.le_iff_toInt_le.mp h
    have h3 : (10000 : Int32).toInt = 10000 := rfl
    have h4 : (0 : Int32).toInt = 0 := rfl
    constructor <;> omega
  · split <;> assumption
theorem yst_sm {n : Nat} {g : Nat → Int32} (hc : ∀ i, i < n → (-6 ≤ g i ∧ g i < 10000) ∧ (ydep g i ≤ 15 ∧ (g i < -2 → 2 ≤ ydep g i))) {x l : Int} (hx : ysm x) (hl : ysm l) : ∀ i, i ≤ n → ∀ k, ysm (yst g x l i k) := by
  intro i
  induction i with
  | zero =>
    intro _ k
    show -1000000 ≤ (0 : Int) ∧ (0 : Int) ≤ 1000000
    exact ⟨by decide, by decide⟩
  | succ i ih =>
    intro hi k
    simp only [yst]
    split
    · split
      · exact yitem_sm (hc i (by omega)).1.2 hx hl
      · exact ih (by omega) k
    · split
      · exact yclim_sm _
      · exact ih (by omega) k
/-- what is sent for a channel -/
def ych (n : Nat) (g : Nat → Int32) (l x : Nat) : Nat := if n = 0 then x * l / 255 else if yst g x l n 0 < 0 then 0 else if 255 < yst g x l n 0 then 255 else (yst g x l n 0).toNat
theorem ych_lt {n : Nat} {g : Nat → Int32} {l x : Nat} (hl : l < 256) (hx : x < 256) : ych n g l x < 256 := by
  unfold ych
  split
  · have h1 : x * l ≤ 255 * 255 := Nat.mul_le_mul (by omega) (by omega)
    omega
  · split
    · decide
    · split
      · decide
      · omega
/-! ===== one operation, on both sides ===== -/
theorem yltI {a b : Int} (ha : -2000000000 ≤ a ∧ a ≤ 2000000000) (x : Int32) : (x.toInt < a → x < Int32.ofInt a) := by
  intro h
  rw [Int32.lt_iff_toInt_lt, yi_toInt ha]
  exact h
theorem yc4 {c : Int32} (h1 : -6 ≤ c) (h2 : c < -2) : c = -3 ∨ c = -4 ∨ c = -5 ∨ c = -6 := by
  have h3 := Int32.le_iff_toInt_le.mp h1
  have h4 := Int32.lt_iff_toInt_lt.mp h2
  have e6 : (-6 : Int32).toInt = -6 := rfl
  have e2 : (-2 : Int32).toInt = -2 := rfl
  rw [e6] at h3
  rw [e2] at h4
  rcases (by omega : c.toInt = -3 ∨ c.toInt = -4 ∨ c.toInt = -5 ∨ c.toInt = -6) with h | h | h | h
  · exact Or.inl (Int32.toInt_inj.mp h)
  · exact Or.inr (Or.inl (Int32.toInt_inj.mp h))
  · exact Or.inr (Or.inr (Or.inl (Int32.toInt_inj.mp h)))
  · exact Or.inr (Or.inr (Or.inr (Int32.toInt_inj.mp h)))
theorem m_4 {d : Nat} {c : Int32} {a b : Int} {σ : xS} {Q : xR → xS → Prop} (h1 : -6 ≤ c) (h2 : c < -2) (ha : ysm a) (hb : ysm b) : Cl d 4 [.int c, .long (Int64.ofInt a), .long (Int64.ofInt b)] σ Q ↔ Q (.inl (some (.long (Int64.ofInt (yop c a b))))) σ := by
  show G d 4 0 [some (.int c), some (.long (Int64.ofInt a)), none, some (.long (Int64.ofInt b)), none] [] σ Q ↔ _
  have hz : Int64.ofInt b = 0 ↔ b = 0 := yJ_eq (b := 0) (by omega) (by omega)
  have hm : Int64.ofInt a * Int64.ofInt b = Int64.ofInt (a * b) := (Int64.ofInt_mul a b).symm
  rcases yc4 h1 h2 with h | h | h | h <;> subst h
  · simp only [s_4_0, s_4_1_0, s_4_1_1, s_4_1_2, s_4_1_d, s_4_2, s_4_3, s_4_4, s_4_5, s_4_6, s_4_7, s_4_8, s_4_9, s_4_10, s_4_11, s_4_12, s_4_13, s_4_14, s_4_15, s_4_16, s_4_17, s_4_18, s_4_19, s_4_20, s_4_21, s_4_22, s_4_23, yop, if_true, Int64.ofInt_add]
  · simp only [s_4_0, s_4_1_0, s_4_1_1, s_4_1_2, s_4_1_d, s_4_2, s_4_3, s_4_4, s_4_5, s_4_6, s_4_7, s_4_8, s_4_9, s_4_10, s_4_11, s_4_12, s_4_13, s_4_14, s_4_15, s_4_16, s_4_17, s_4_18, s_4_19, s_4_20, s_4_21, s_4_22, s_4_23, yop, show ¬ (-4 : Int32) = -3 from by decide, if_true, if_false, Int64.ofInt_sub]
  · simp only [s_4_0, s_4_1_0, s_4_1_1, s_4_1_2, s_4_1_d, s_4_2, s_4_3, s_4_4, s_4_5, s_4_6, s_4_7, s_4_8, s_4_9, s_4_10, s_4_11, s_4_12, s_4_13, s_4_14, s_4_15, s_4_16, s_4_17, s_4_18, s_4_19, s_4_20, s_4_21, s_4_22, s_4_23, yop, show ¬ (-5 : Int32) = -3 from by decide, show ¬ (-5 : Int32) = -4 from by decide, if_true, if_false, hm]
  · rw [s_4_0, s_4_1_d (Or.inl (by decide))]
    by_cases h0 : b = 0
    · simp only [s_4_2, s_4_3, s_4_4, s_4_5, s_4_6, s_4_7, s_4_8, s_4_9, s_4_10, s_4_11, s_4_12, s_4_13, s_4_14, s_4_15, s_4_16, s_4_17, s_4_18, s_4_19, s_4_20, s_4_21, s_4_22, s_4_23, lg_cmp0, hz, h0, ne_eq, not_true_eq_false, yop, show ¬ (-6 : Int32) = -3 from by decide, show ¬ (-6 : Int32) = -4 from by decide, show ¬ (-6 : Int32) = -5 from by decide, if_true, if_false]
      rfl
    · have h00 : ¬ Int64.ofInt b = 0 := fun h => h0 (hz.mp h)
      simp only [s_4_2, s_4_3, s_4_4, s_4_5, s_4_6, s_4_7, s_4_8, s_4_9, s_4_10, s_4_11, s_4_12, s_4_13, s_4_14, s_4_15, s_4_16, s_4_17, s_4_18, s_4_19, s_4_20, s_4_21, s_4_22, s_4_23, lg_cmp0, h00, h0, ne_eq, not_false_eq_true, yop, show ¬ (-6 : Int32) = -3 from by decide, show ¬ (-6 : Int32) = -4 from by decide, show ¬ (-6 : Int32) = -5 from by decide, if_true, if_false, yJ_div (a := a) (b := b) (by omega) (by omega)]
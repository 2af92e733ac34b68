/-! ===== colors ===== -/
theorem yand255 (x : Int32) : ∃ m, m < 256 ∧ x &&& 255 = yI m := by
  refine ⟨x.toBitVec.toNat % 256, Nat.mod_lt _ (by decide), ?_⟩
  apply Int32.toBitVec_inj.mp
  apply BitVec.eq_of_toNat_eq
  have h : (255 : Int32).toBitVec.toNat = 2 ^ 8 - 1 := rfl
  rw [Int32.toBitVec_and, BitVec.toNat_and, h, Nat.and_two_pow_sub_one_eq_mod]
  show _ = (BitVec.ofNat 32 (x.toBitVec.toNat % 256)).toNat
  rw [BitVec.toNat_ofNat, Nat.mod_eq_of_lt (a := x.toBitVec.toNat % 256) (b := 2 ^ 32)]
  omega
theorem yI_nat (n : Nat) : (yI n).toBitVec = BitVec.ofNat 32 n := rfl
theorem yrgb_nat {r g b : Nat} (hr : r < 256) (hg : g < 256) (hb : b < 256) : yrgb (yI r) (yI g) (yI b) = yI (65536 * r + 256 * g + b) := by
  unfold yrgb
  apply Int32.toBitVec_inj.mp
  apply BitVec.eq_of_toNat_eq
  have e16 : ((16 : Int32) &&& 31) = 16 := by decide
  have e8 : ((8 : Int32) &&& 31) = 8 := by decide
  rw [e16, e8, Int32.toBitVec_or, Int32.toBitVec_or, Int32.toBitVec_shiftLeft, Int32.toBitVec_shiftLeft]
  have s16 : ((16 : Int32).toBitVec.smod 32#32) = 16#32 := by decide
  have s8 : ((8 : Int32).toBitVec.smod 32#32) = 8#32 := by decide
  simp only [BitVec.toNat_or, yI_nat]
  rw [show ((16 : Int32).toBitVec.smod 32) = 16#32 from by decide, show ((8 : Int32).toBitVec.smod 32) = 8#32 from by decide]
  rw [BitVec.shiftLeft_eq', BitVec.shiftLeft_eq', BitVec.toNat_shiftLeft, BitVec.toNat_shiftLeft]
  simp only [BitVec.toNat_ofNat]
  rw [Nat.mod_eq_of_lt (a := r) (by omega), Nat.mod_eq_of_lt (a := g) (by omega), Nat.mod_eq_of_lt (a := b) (by omega)]
  have h16 : (16 % 2 ^ 32 : Nat) = 16 := by decide
  have h8 : (8 % 2 ^ 32 : Nat) = 8 := by decide
  rw [h16, h8, Nat.shiftLeft_eq, Nat.shiftLeft_eq, Nat.mod_eq_of_lt (a := r * 2 ^ 16) (by omega), Nat.mod_eq_of_lt (a := g * 2 ^ 8) (by omega), Nat.mod_eq_of_lt (a := 65536 * r + 256 * g + b) (by omega)]
  have a1 : r * 2 ^ 16 ||| g * 2 ^ 8 = r * 2 ^ 16 + g * 2 ^ 8 := by
    rw [← Nat.shiftLeft_eq r 16, ← Nat.shiftLeft_add_eq_or_of_lt (by omega)]
  have a2 : (r * 2 ^ 16 + g * 2 ^ 8) ||| b = r * 2 ^ 16 + g * 2 ^ 8 + b := by
    have e : r * 2 ^ 16 + g * 2 ^ 8 = (r * 2 ^ 8 + g) <<< 8 := by
      rw [Nat.shiftLeft_eq]
      omega
    rw [e, ← Nat.shiftLeft_add_eq_or_of_lt (by omega)]
  rw [a1, a2]
  omega
theorem yI_div {a b : Nat} (ha : a < 2147483648) (hb : b < 2147483648) : yI a / yI b = yI (a / b) := by
  apply Int32.toInt_inj.mp
  have h1 : a / b ≤ a := Nat.div_le_self a b
  have hne : yI a ≠ Int32.minValue := by
    intro h
    have := congrArg Int32.toInt h
    rw [yI_toInt ha, Int32.toInt_minValue] at this
    omega
  rw [Int32.toInt_div_of_ne_left (yI a) (yI b) hne, yI_toInt ha, yI_toInt hb, yI_toInt (by omega)]
  rfl
def ycolor (r g b : Int32) : Int32 := 65536 * r + 256 * g + b
theorem ycolor_nat {r g b : Nat} : ycolor (yI r) (yI g) (yI b) = yI (65536 * r + 256 * g + b) := by
  unfold ycolor
  rw [show (65536 : Int32) = yI 65536 from rfl, show (256 : Int32) = yI 256 from rfl, yI_mul, yI_mul, yI_add, yI_add]
/-- a share of a channel -/
theorem yshare_ch {m lim ld : Nat} (hm : m < 256) (hl : lim < 10000) (h : lim < ld) (hd : ld < 2147483648) : ∃ s, s < 256 ∧ yI m * yI lim / yI ld = yI s := by
  refine ⟨m * lim / ld, ?_, ?_⟩
  · have h1 : m * lim ≤ m * ld := Nat.mul_le_mul_left m (by omega)
    have h2 : m * lim / ld ≤ m := by
      apply Nat.div_le_of_le_mul
      rw [Nat.mul_comm ld m]
      exact h1
    omega
  · have h1 : m * lim ≤ 255 * 9999 := Nat.mul_le_mul (by omega) (by omega)
    rw [yI_mul, yI_div (by omega) hd]

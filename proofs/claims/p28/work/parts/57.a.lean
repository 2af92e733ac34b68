/-! ===== usage ===== -/
theorem ynan {x y : Int32} (hy : ¬ y = 0) : FP.ddiv (FP.i2d x) (FP.i2d y) &&& 0x7fffffffffffffff ≤ 0x7ff0000000000000 := by
  have hx := Jvm.FP.Core.i2d_int x
  have hy1 := Jvm.FP.Core.i2d_int y
  have hv : Jvm.FP.Core.val64 (FP.ddiv (FP.i2d x) (FP.i2d y)) ≠ .nan := by
    rw [show FP.ddiv (FP.i2d x) (FP.i2d y) = Jvm.FP.Core.ddiv (Jvm.FP.Core.i2d x) (Jvm.FP.Core.i2d y) from rfl, Jvm.FP.Core.val64_ddiv]
    unfold Jvm.FP.Core.DInt at hx hy1
    cases h1 : Jvm.FP.Core.val64 (Jvm.FP.Core.i2d x) with
    | nan =>
      rw [h1] at hx
      exact hx.elim
    | inf s =>
      rw [h1] at hx
      exact hx.elim
    | fin s c q =>
      cases h2 : Jvm.FP.Core.val64 (Jvm.FP.Core.i2d y) with
      | nan =>
        rw [h2] at hy1
        exact hy1.elim
      | inf s =>
        rw [h2] at hy1
        exact hy1.elim
      | fin t e r =>
        rw [h2] at hy1
        have he : ¬ e = 0 := by
          intro h0
          rw [h0] at hy1
          have h3 : Jvm.FP.Core.signed t (0 * 2 ^ r.toNat) = y.toInt * ((2 ^ (-r).toNat : Nat) : Int) := hy1
          rw [Nat.zero_mul] at h3
          have h4 : Jvm.FP.Core.signed t 0 = 0 := by cases t <;> rfl
          rw [h4] at h3
          have h5 : (0 : Int) < ((2 ^ (-r).toNat : Nat) : Int) := by
            have := Nat.pow_pos (a := 2) (n := (-r).toNat) (by decide)
            omega
          have h6 : y.toInt = 0 := by
            rcases Int.mul_eq_zero.mp h3.symm with h | h
            · exact h
            · omega
          exact hy (Int32.toInt_inj.mp h6)
        show (if e = 0 then _ else _) ≠ _
        rw [if_neg he]
        exact Jvm.FP.Core.roundRatio_ne_nan _ _ _ _ _
  have h := (Jvm.FP.Core.ne_nan _).mp hv
  rw [UInt64.le_iff_toNat_le, UInt64.toNat_and, show (0x7fffffffffffffff : UInt64).toNat = 2 ^ 63 - 1 from rfl, Nat.and_two_pow_sub_one_eq_mod]
  exact h
def yusage (D : yD) : UInt64 := if ysumlim D = 0 then FP.dconst0 else FP.ddiv (FP.i2d (ycurrent D)) (FP.i2d (ysumlim D))
section
variable {d : Nat} {t : yT} {D : yD} {k : Nat} {E : Nat → yD} {s0 s1 : Option yD} {n : Nat} {B : Nat → Nat} {eo en : Int32}
end

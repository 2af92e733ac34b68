/-! ===== the model's setups: feeds ===== -/
theorem yix3' : yix 3 1540 := yix_I (n := 3) (by omega) (by omega)
section
variable {d : Nat} {t : yT} {n : Nat} {B : Nat → Nat} {m : Nat} {U : yU} {D : yD}
end

/-! ===== the law's helpers ===== -/
theorem yix01 : yix 0 1 := yix_I (n := 0) (by omega) (by omega)
section
variable {d : Nat} {t u : yT}
end

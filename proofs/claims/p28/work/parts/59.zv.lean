/-! ===== the model's setups: fill ===== -/
section
variable {d : Nat} {t : yT} {n : Nat} {B : Nat → Nat} {m q : Nat} {U : yU}
theorem yrch3 {q : Nat} : yrch n B 3 q 0 = if ynum n B q 0 255 = true then (if ynum n B (ynq n B q) 0 255 = true then (if ynum n B (ynq n B (ynq n B q)) 0 255 = true then .inr (ynq n B (ynq n B (ynq n B q)), 65536 * ynv n B q + 256 * ynv n B (ynq n B q) + ynv n B (ynq n B (ynq n B q))) else .inl (yne n B (ynq n B (ynq n B q)), ynq n B (ynq n B q))) else .inl (yne n B (ynq n B q), ynq n B q)) else .inl (yne n B q, q) := by
  rw [yrch, yrch, yrch, yrch]
  rw [show 256 * (256 * (256 * 0 + ynv n B q) + ynv n B (ynq n B q)) + ynv n B (ynq n B (ynq n B q)) = 65536 * ynv n B q + 256 * ynv n B (ynq n B q) + ynv n B (ynq n B (ynq n B q)) by omega]
end

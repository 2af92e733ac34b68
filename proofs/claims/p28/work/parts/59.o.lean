/-! ===== the model's reader: signs and numbers ===== -/
section
variable {d : Nat} {n : Nat} {B : Nat → Nat}
theorem yYt_b {t : yT} (Y : yYt t n B) : ∀ i, i < n → B i < 256 := fun i hi => (Y.2.2 i hi).1
theorem yYt_fr {t u : yT} (Y : yYt t n B) (h3 : u.A 160 3 = t.A 160 3) (F : yFe t u) : yYt u n B := by
  refine ⟨Y.1, by rw [h3]; exact Y.2.1, fun i hi => ?_⟩
  rw [F.A (by decide)]
  exact Y.2.2 i hi
/-- the number at q, if it lies between -/
def ynum (n : Nat) (B : Nat → Nat) (q lo hi : Nat) : Bool := (decide (q < n) && ydg (B q)) && decide (lo ≤ yvm B (n - q) q 0 ∧ yvm B (n - q) q 0 ≤ hi)
end

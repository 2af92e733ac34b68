/-! ===== the model's sums: what is no sum ===== -/
theorem ysk_idem {n : Nat} {B : Nat → Nat} {m : Nat} (h : m ≤ n) : ysk n B (ysk n B m) = ysk n B m := by
  have h1 := ysk_le (n := n) (B := B) h
  have h2 := (yw_spec (P := ysp) (B := B) (n - m) m).2
  show yw ysp B (n - ysk n B m) (ysk n B m) = ysk n B m
  refine yw_at (Nat.le_refl _) (by omega) (fun j g1 g2 => by omega) (fun g => ?_)
  refine h2 ?_
  show ysk n B m < m + (n - m)
  omega
theorem yisw_dg {n : Nat} {B : Nat → Nat} {q i : Nat} (hi : i < 14) (hq : q ≤ n) (h : (decide (q < n) && ydg (B q)) = true) : yisw n B q i = false := by
  rw [Bool.and_eq_true, decide_eq_true_iff] at h
  cases hx : yisw n B q i
  · rfl
  · have := ((yisw_c hi hq).mp hx).1
    rw [ytkind, if_neg (by omega), h.2, if_pos rfl] at this
    cases this
section
variable {d : Nat} {n : Nat} {B : Nat → Nat}
end

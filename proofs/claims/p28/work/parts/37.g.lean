/-! ===== a color that is sent: the model ===== -/
theorem ycp_lt {g : Nat → Int32} : ∀ n j, j < n → ycp g j < ycp g n := by
  intro n
  induction n with
  | zero => intro j h; omega
  | succ n ih =>
    intro j h
    have h1 : ycp g n < ycp g (n + 1) := by
      simp only [ycp]
      split <;> omega
    by_cases e : j = n
    · rw [e]
      exact h1
    · have := ih j (by omega)
      omega
theorem ycp_le {g : Nat → Int32} : ∀ n, ycp g n ≤ 2 * n := by
  intro n
  induction n with
  | zero => exact Nat.le_refl _
  | succ n ih =>
    simp only [ycp]
    split <;> omega
theorem yJ_of (x : Int32) : x.toInt64 = Int64.ofInt x.toInt := by
  apply Int64.toInt_inj.mp
  have h1 := x.toInt_lt
  have h2 := x.le_toInt
  rw [Int32.toInt_toInt64, yJ_toInt (by omega)]
theorem yc2 {c : Int32} (h1 : -2 ≤ c) (h2 : c < 0) : c = -1 ∨ c = -2 := by
  have h3 := Int32.le_iff_toInt_le.mp h1
  have h4 := Int32.lt_iff_toInt_lt.mp h2
  have e2 : (-2 : Int32).toInt = -2 := rfl
  have e0 : (0 : Int32).toInt = 0 := rfl
  rw [e2] at h3
  rw [e0] at h4
  rcases (by omega : c.toInt = -1 ∨ c.toInt = -2) with h | h
  · exact Or.inl (Int32.toInt_inj.mp h)
  · exact Or.inr (Int32.toInt_inj.mp h)
theorem vp_updL_same {f : Nat → Int64} {k : Nat} {x : Int64} : vp_updL f k x k = x := if_pos rfl
theorem vp_updL_if {f : Nat → Int64} {k j : Nat} {x : Int64} : vp_updL f k x j = if j = k then x else f j := rfl
section
variable {d : Nat} {D : yD}
end

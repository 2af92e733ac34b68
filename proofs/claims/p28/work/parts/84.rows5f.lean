theorem xme_5b : ((List.range 15).all fun j => xme (171 + j)) = true := by decide +kernel
theorem xme_5 : ((List.range 31).all fun j => xme (155 + j)) = true := by
  rw [List.all_eq_true]
  intro j hj
  have h1 := List.mem_range.mp hj
  show xme (155 + j) = true
  by_cases h : j < 16
  · exact List.all_eq_true.mp xme_5a j (List.mem_range.mpr h)
  · have h2 := List.all_eq_true.mp xme_5b (j - 16) (List.mem_range.mpr (by omega))
    rw [show 171 + (j - 16) = 155 + j by omega] at h2
    exact h2

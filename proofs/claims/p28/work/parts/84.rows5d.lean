theorem xme_4b : ((List.range 15).all fun j => xme (140 + j)) = true := by decide +kernel
theorem xme_4 : ((List.range 31).all fun j => xme (124 + j)) = true := by
  rw [List.all_eq_true]
  intro j hj
  have h1 := List.mem_range.mp hj
  show xme (124 + j) = true
  by_cases h : j < 16
  · exact List.all_eq_true.mp xme_4a j (List.mem_range.mpr h)
  · have h2 := List.all_eq_true.mp xme_4b (j - 16) (List.mem_range.mpr (by omega))
    rw [show 140 + (j - 16) = 124 + j by omega] at h2
    exact h2

theorem xme_6b : ((List.range 15).all fun j => xme (202 + j)) = true := by decide +kernel
theorem xme_6 : ((List.range 31).all fun j => xme (186 + j)) = true := by
  rw [List.all_eq_true]
  intro j hj
  have h1 := List.mem_range.mp hj
  show xme (186 + j) = true
  by_cases h : j < 16
  · exact List.all_eq_true.mp xme_6a j (List.mem_range.mpr h)
  · have h2 := List.all_eq_true.mp xme_6b (j - 16) (List.mem_range.mpr (by omega))
    rw [show 202 + (j - 16) = 186 + j by omega] at h2
    exact h2

theorem xme_6f : ((List.range 5).all fun j => xme (212 + j)) = true := by decide +kernel
theorem xme_6g : ((List.range 9).all fun j => xme (208 + j)) = true := by
  rw [List.all_eq_true]
  intro j hj
  have h1 := List.mem_range.mp hj
  show xme (208 + j) = true
  by_cases h : j < 4
  · exact List.all_eq_true.mp xme_6e j (List.mem_range.mpr h)
  · have h2 := List.all_eq_true.mp xme_6f (j - 4) (List.mem_range.mpr (by omega))
    rw [show 212 + (j - 4) = 208 + j by omega] at h2
    exact h2
theorem xme_6h : ((List.range 10).all fun j => xme (207 + j)) = true := by
  rw [List.all_eq_true]
  intro j hj
  have h1 := List.mem_range.mp hj
  show xme (207 + j) = true
  by_cases h : j < 1
  · exact List.all_eq_true.mp xme_6d j (List.mem_range.mpr h)
  · have h2 := List.all_eq_true.mp xme_6g (j - 1) (List.mem_range.mpr (by omega))
    rw [show 208 + (j - 1) = 207 + j by omega] at h2
    exact h2
theorem xme_6b : ((List.range 15).all fun j => xme (202 + j)) = true := by
  rw [List.all_eq_true]
  intro j hj
  have h1 := List.mem_range.mp hj
  show xme (202 + j) = true
  by_cases h : j < 5
  · exact List.all_eq_true.mp xme_6c j (List.mem_range.mpr h)
  · have h2 := List.all_eq_true.mp xme_6h (j - 5) (List.mem_range.mpr (by omega))
    rw [show 207 + (j - 5) = 202 + j by omega] at h2
    exact h2
theorem xme_6 : ((List.range 31).all fun j => xme (186 + j)) = true := by
  rw [List.all_eq_true]
  intro j hj
  have h1 := List.mem_range.mp hj
  show xme (186 + j) = true
  by_cases h : j < 16
  · exact List.all_eq_true.mp xme_6a j (List.mem_range.mpr h)
  · have h2 := List.all_eq_true.mp xme_6b (j - 16) (List.mem_range.mpr (by omega))
    rw [show 202 + (j - 16) = 186 + j by omega] at h2
    exact h2

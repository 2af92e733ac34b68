theorem xme_0 : ((List.range 31).all fun j => xme (0 + j)) = true := by decide +kernel
theorem xme_1 : ((List.range 31).all fun j => xme (31 + j)) = true := by decide +kernel
theorem xme_2 : ((List.range 31).all fun j => xme (62 + j)) = true := by decide +kernel
theorem xme_3 : ((List.range 31).all fun j => xme (93 + j)) = true := by decide +kernel
theorem xme_4 : ((List.range 31).all fun j => xme (124 + j)) = true := by decide +kernel
theorem xme_5 : ((List.range 31).all fun j => xme (155 + j)) = true := by decide +kernel
theorem xme_6 : ((List.range 31).all fun j => xme (186 + j)) = true := by decide +kernel
theorem xme_7 : ((List.range 27).all fun j => xme (217 + j)) = true := by decide +kernel

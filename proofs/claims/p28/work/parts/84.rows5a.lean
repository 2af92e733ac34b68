theorem xme_0 : ((List.range 31).all fun j => xme (0 + j)) = true := by decide +kernel
theorem xme_1 : ((List.range 31).all fun j => xme (31 + j)) = true := by decide +kernel

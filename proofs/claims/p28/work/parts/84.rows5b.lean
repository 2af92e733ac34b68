theorem xme_2 : ((List.range 31).all fun j => xme (62 + j)) = true := by decide +kernel
theorem xme_3 : ((List.range 31).all fun j => xme (93 + j)) = true := by decide +kernel

theorem xme_5a : ((List.range 16).all fun j => xme (155 + j)) = true := by decide +kernel

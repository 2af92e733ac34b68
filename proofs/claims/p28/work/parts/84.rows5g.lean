theorem xme_6a : ((List.range 16).all fun j => xme (186 + j)) = true := by decide +kernel

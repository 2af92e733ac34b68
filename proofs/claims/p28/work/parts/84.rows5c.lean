theorem xme_4a : ((List.range 16).all fun j => xme (124 + j)) = true := by decide +kernel

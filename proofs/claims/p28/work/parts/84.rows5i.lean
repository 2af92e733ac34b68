theorem xme_7 : ((List.range 27).all fun j => xme (217 + j)) = true := by decide +kernel

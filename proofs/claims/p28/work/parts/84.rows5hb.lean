theorem xme_6e : ((List.range 4).all fun j => xme (208 + j)) = true := by decide +kernel

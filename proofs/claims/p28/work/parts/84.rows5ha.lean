theorem xme_6d : ((List.range 1).all fun j => xme (207 + j)) = true := by decide +kernel

theorem xme_6c : ((List.range 5).all fun j => xme (202 + j)) = true := by decide +kernel

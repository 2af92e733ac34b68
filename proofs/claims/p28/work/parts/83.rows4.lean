theorem xrl_16 : ((List.range 30).all fun j => match ft 244 (480 + j) with | some q => xrow 244 (480 + j) q | none => true) = true := by decide +kernel
theorem xrl_17 : ((List.range 30).all fun j => match ft 244 (510 + j) with | some q => xrow 244 (510 + j) q | none => true) = true := by decide +kernel
theorem xrl_18 : ((List.range 30).all fun j => match ft 244 (540 + j) with | some q => xrow 244 (540 + j) q | none => true) = true := by decide +kernel
theorem xrl_19 : ((List.range 30).all fun j => match ft 244 (570 + j) with | some q => xrow 244 (570 + j) q | none => true) = true := by decide +kernel
theorem xrl_20 : ((List.range 30).all fun j => match ft 244 (600 + j) with | some q => xrow 244 (600 + j) q | none => true) = true := by decide +kernel
theorem xrl_21 : ((List.range 30).all fun j => match ft 244 (630 + j) with | some q => xrow 244 (630 + j) q | none => true) = true := by decide +kernel
theorem xrl_22 : ((List.range 14).all fun j => match ft 244 (660 + j) with | some q => xrow 244 (660 + j) q | none => true) = true := by decide +kernel

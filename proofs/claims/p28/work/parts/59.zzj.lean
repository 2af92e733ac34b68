/-! ===== a script is done by the model ===== -/
section
variable {d : Nat} {t : yT} {T : yTb} {cN i : Nat} {D : yD} {done dep : Nat}
theorem yPm_s8 {v : Int32} (P : yPm t T cN D done) : yPm (t.s1 160 8 v) T cN D done := ⟨by rw [ys1_ne (by decide)]; exact P.1, yGm_g P.2.1 (yKg_s (Or.inl rfl)), by rw [ys1_upd, yupd_ne (by decide)]; exact P.2.2⟩
end

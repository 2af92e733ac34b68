/-! ===== the law's loop ===== -/
theorem ysub6 {L i : Nat} (hL : L ≤ 3072) (hi : i ≤ 3072) : yI L - 6 < yI i ↔ L < i + 6 := by
  by_cases h : 6 ≤ L
  · have e : yI L - 6 = yI (L - 6) := yI_sub h
    rw [e, yI_lt (by omega) (by omega)]
    omega
  · refine ⟨fun _ => by omega, fun _ => ?_⟩
    have h0 : (0 : Int32) ≤ yI i := Int32.not_lt.mp (yI_nneg (by omega))
    have h1 : yI L - 6 < 0 := by
      rcases (by omega : L = 0 ∨ L = 1 ∨ L = 2 ∨ L = 3 ∨ L = 4 ∨ L = 5) with h | h | h | h | h | h <;> subst h <;> decide
    exact Int32.lt_of_lt_of_le h1 h0
section
variable {d : Nat} {t : yT} {i : Nat}
abbrev yLp (i : Nat) (l5 l6 l7 l8 : Option Value) : xL := [some (.ref 1000000), some (.ref 0), some (.ref 160), some (.ref 183), some (.int (yI i)), l5, l6, l7, l8]
end

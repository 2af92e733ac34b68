/-! ===== the model's setups whole ===== -/
section
variable {d : Nat} {t : yT} {n : Nat} {B : Nat → Nat} {m q : Nat} {U : yU}
/-- ahead of a setup -/
abbrev yMq (t : yT) (n : Nat) (B : Nat → Nat) (m : Nat) : Prop := yYt t n B ∧ (m ≤ n ∧ (t.A 160 4 = yI m ∧ ((t.A 160 5 = 0 ∧ t.A 160 6 = -1) ∧ (t.A 160 18 = yI 0 ∧ ((t.L 160 20 = 0 ∧ t.L 160 21 = 0) ∧ t.A 160 19 = 0)))))
theorem yMq_e {u : yT} {m' : Nat} (M : yMq t n B m) (hm : m' ≤ n) (h4 : u.A 160 4 = yI m') (hj : ∀ j, j ≠ 4 → j ≠ 17 → u.A 160 j = t.A 160 j) (F : yFe t u) : yMq u n B m' ∧ yKn t u := by
  obtain ⟨Y, -, -, ⟨h5, h6⟩, h18, ⟨h20, h21⟩, h19⟩ := M
  refine ⟨⟨yYt_fr Y (hj 3 (by decide) (by decide)) F, hm, h4, ⟨?_, ?_⟩, ?_, ⟨?_, ?_⟩, ?_⟩, fun j hj' => hj j (by omega) (by omega), F.1.mono (fun a h => Or.inl h)⟩
  · rw [hj 5 (by decide) (by decide)]; exact h5
  · rw [hj 6 (by decide) (by decide)]; exact h6
  · rw [hj 18 (by decide) (by decide)]; exact h18
  · rw [F.2]; exact h20
  · rw [F.2]; exact h21
  · rw [hj 19 (by decide) (by decide)]; exact h19
end

/-! ===== the model's leaves ===== -/
section
variable {d : Nat} {n : Nat} {B : Nat → Nat}
theorem yMr_4 {t u : yT} {m m' : Nat} {l : List Int32} {k : Nat} (M : yMr t n B m l k) (hm : m' ≤ n) (h4 : u.A 160 4 = yI m') (hj : ∀ j, j ≠ 4 → u.A 160 j = t.A 160 j) (F : yFe t u) : yMr u n B m' l k ∧ yKj t u := by
  refine ⟨⟨yYt_fr M.1 (hj 3 (by decide)) F, hm, h4, by rw [hj 5 (by decide)]; exact M.2.2.2.1, by rw [hj 18 (by decide)]; exact M.2.2.2.2.1, by rw [F.A (by decide)]; exact M.2.2.2.2.2.1, by rw [hj 6 (by decide)]; exact M.2.2.2.2.2.2⟩, fun j a _ _ _ _ => hj j a, fun j _ _ => by rw [F.A (by decide)], F.1.mono (fun a h => Or.inl h), F.2⟩
/-- an item behind what is read -/
theorem yMr_p {t u : yT} {m : Nat} {l l' : List Int32} {k : Nat} (M : yMr t n B m l k) (J : yJs (u.A 163) l') (hS : ∀ j, j < 340 → j ≠ 7 → u.A 163 j = t.A 163 j) (F : yFr (fun a => a = 163) t u) : yMr u n B m l' k ∧ yKj t u := by
  have e : u.A 160 = t.A 160 := F.A (by decide)
  refine ⟨⟨⟨M.1.1, by rw [e]; exact M.1.2.1, fun i hi => by rw [F.A (by decide)]; exact M.1.2.2 i hi⟩, M.2.1, by rw [e]; exact M.2.2.1, by rw [e]; exact M.2.2.2.1, by rw [e]; exact M.2.2.2.2.1, J, by rw [e]; exact M.2.2.2.2.2.2⟩, fun j _ _ _ _ _ => by rw [e], hS, F.mono (fun a h => Or.inr h), F.L (by decide)⟩
theorem yKj_n {t u : yT} (hj : ∀ j, j ≠ 4 → j ≠ 5 → j ≠ 6 → j ≠ 17 → u.A 160 j = t.A 160 j) (F : yFe t u) : yKj t u := ⟨fun j a b c e _ => hj j a b c e, fun j _ _ => by rw [F.A (by decide)], F.1.mono (fun a h => Or.inl h), F.2⟩
end

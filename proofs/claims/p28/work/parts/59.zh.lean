/-! ===== the model's factors and sums whole ===== -/
section
variable {d : Nat} {n : Nat} {B : Nat → Nat}
theorem yKj_18 {t : yT} {x : Int32} : yKj t (t.s1 160 18 x) :=
  ⟨fun j _ _ _ _ h => by rw [ys1_upd, yupd_ne h], fun j _ _ => by rw [ys1_ne (by decide)], (yFr_s1 (P := fun a => a = 160) rfl).mono (fun a h => Or.inl h), rfl⟩
theorem yMr_18 {t : yT} {m k k' : Nat} {l : List Int32} (M : yMr t n B m l k) : yMr (t.s1 160 18 (yI k')) n B m l k' :=
  ⟨yYt_4 M.1 (by decide), M.2.1, by rw [ys1_upd, yupd_ne (by decide)]; exact M.2.2.1, by rw [ys1_upd, yupd_ne (by decide)]; exact M.2.2.2.1, ys1_same, by rw [ys1_ne (by decide)]; exact M.2.2.2.2.2.1, by rw [ys1_upd, yupd_ne (by decide)]; exact M.2.2.2.2.2.2⟩
end

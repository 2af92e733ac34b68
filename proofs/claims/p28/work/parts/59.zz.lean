/-! ===== a setup is loaded, on both sides ===== -/
section
variable {d : Nat} {t u : yT} {D : yD} {k : Nat} {E : Nat → yD} {s0 s1 : Option yD} {n n0 : Nat} {B : Nat → Nat} {eo eo' en : Int32} {P : Nat → Prop}
/-- the model's half behind a text -/
theorem yMI_t (C : yMI t D k E s0 s1 n0 B eo en) (F : yFr P t u) (hP : ∀ a, P a → a ≤ 160 ∨ ((163 ≤ a ∧ a ≤ 165) ∨ 179 ≤ a)) (h2 : u.A 160 2 = 0) (h7 : u.A 160 7 = eo') (h8 : u.A 160 8 = t.A 160 8) (h16 : u.A 160 16 = t.A 160 16) : yMI u D k E s0 s1 0 B eo' en := by
  obtain ⟨M, H, ⟨⟨a1, a2⟩, a3, a4⟩, -, -, c2⟩ := C
  have nP : ∀ a, (a = 162 ∨ (166 ≤ a ∧ a ≤ 178)) → ¬ P a := fun a g h => by have := hP a h; omega
  refine ⟨yM_ne M F (nP 162 (by decide)), yH2_fr H h16 (fun a g1 g2 => F.A (nP a (by omega))), ⟨⟨?_, ?_⟩, fun X hX => ?_, fun X hX => ?_⟩, ⟨by decide, h2, fun i hi => absurd hi (Nat.not_lt_zero _)⟩, h7, by rw [h8]; exact c2⟩
  · rw [F.A (nP 178 (by decide))]; exact a1
  · rw [F.A (nP 178 (by decide))]; exact a2
  · rw [F.A (nP 176 (by decide))]; exact a3 X hX
  · rw [F.A (nP 177 (by decide))]; exact a4 X hX
theorem yCI_eo (C : yCI t D k E s0 s1 n B eo en) {x : Int32} : yCI (t.s1 0 11 x) D k E s0 s1 n B x en := by
  have F : yFr (fun a => a = 0) t (t.s1 0 11 x) := yFr_s1 rfl
  obtain ⟨W, ⟨w, H⟩, ⟨⟨a1, a2⟩, a3, a4⟩, T, -, c2⟩ := C
  refine ⟨yW_fr W F (fun a _ _ (g3 : a = 0) => by omega), ⟨w, yH1_fr H F (fun a (h : a = 0) => by omega)⟩, ⟨⟨?_, ?_⟩, fun X hX => yW_fr (a3 X hX) F (fun a _ _ (g3 : a = 0) => by omega), fun X hX => yW_fr (a4 X hX) F (fun a _ _ (g3 : a = 0) => by omega)⟩, ⟨T.1, ?_, fun i hi => ?_⟩, ys1_same, ?_⟩
  · rw [ys1_upd, yupd_ne (by decide)]; exact a1
  · rw [ys1_upd, yupd_ne (by decide)]; exact a2
  · rw [ys1_ne (by decide)]; exact T.2.1
  · rw [ys1_ne (by decide)]; exact T.2.2 i hi
  · rw [ys1_upd, yupd_ne (by decide)]; exact c2
end

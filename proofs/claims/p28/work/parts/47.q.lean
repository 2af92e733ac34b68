/-! ===== the class's half and the model's half of what holds between calls ===== -/
abbrev ysb (b : Nat) : Int32 := (yI b).toInt8.toInt32
abbrev yS1 (t : yT) (s0 s1 : Option yD) : Prop := (t.A 0 9 = yb s0.isSome ∧ t.A 0 10 = yb s1.isSome) ∧ ((∀ E, s0 = some E → yW t 136 E) ∧ (∀ E, s1 = some E → yW t 148 E))
abbrev yS2 (t : yT) (s0 s1 : Option yD) : Prop := (t.A 178 0 = yb s0.isSome ∧ t.A 178 1 = yb s1.isSome) ∧ ((∀ E, s0 = some E → yM (t.A 176) E) ∧ (∀ E, s1 = some E → yM (t.A 177) E))
abbrev yT1 (t : yT) (n : Nat) (B : Nat → Nat) : Prop := n ≤ 600 ∧ (t.A 1 1 = yI n ∧ ∀ i, i < n → t.A 2 i = ysb (B i))
abbrev yT2 (t : yT) (n : Nat) (B : Nat → Nat) : Prop := n ≤ 600 ∧ (t.A 160 2 = yI n ∧ ∀ i, i < n → B i < 256 ∧ t.A 161 i = yI (B i))
abbrev yCI (t : yT) (D : yD) (k : Nat) (E : Nat → yD) (s0 s1 : Option yD) (n : Nat) (B : Nat → Nat) (eo en : Int32) : Prop :=
  yW t 7 D ∧ ((∃ w, yH1 t k w E) ∧ (yS1 t s0 s1 ∧ (yT1 t n B ∧ (t.A 0 11 = eo ∧ t.A 0 12 = en))))
abbrev yMI (t : yT) (D : yD) (k : Nat) (E : Nat → yD) (s0 s1 : Option yD) (n : Nat) (B : Nat → Nat) (eo en : Int32) : Prop :=
  yM (t.A 162) D ∧ (yH2 t k E ∧ (yS2 t s0 s1 ∧ (yT2 t n B ∧ (t.A 160 7 = eo ∧ t.A 160 8 = en))))
abbrev yZ (t : yT) : Prop := 160 ≤ t.z.1.1 ∧ ∀ r, t.z.1.1 ≤ r → t.K r = none
def yInv (t : yT) : Prop := (∃ D k E s0 s1 n B eo en, yCI t D k E s0 s1 n B eo en ∧ yMI t D k E s0 s1 n B eo en) ∧ yZ t
/-- what a call of the class may touch; what one of the model may -/
abbrev yFc (t u : yT) : Prop := (∀ a, 160 ≤ a → a ≠ 183 → u.A a = t.A a ∧ (u.L a = t.L a ∧ u.R a = t.R a)) ∧ ((yZ t → yZ u) ∧ ((u.z.1.1 ≤ t.z.1.1 + 3 ∧ u.z.1.2 ≤ t.z.1.2 + 700) ∧ u.z.2 = t.z.2))
abbrev yFm (t u : yT) : Prop := yFr (fun a => 160 ≤ a ∧ a ≠ 183) t u
section
variable {t u : yT} {D D' : yD} {k k' : Nat} {E E' : Nat → yD} {s0 s1 : Option yD} {n : Nat} {B : Nat → Nat} {eo en : Int32} {P : Nat → Prop}
theorem yH1_fr {w : Nat} (H : yH1 t k w E) (F : yFr P t u) (hP : ∀ a, P a → a ≠ 38 ∧ (a < 40 ∨ 136 ≤ a)) : yH1 u k w E := by
  obtain ⟨h0, ⟨h1, h2⟩, h3⟩ := H
  refine ⟨h0, ⟨?_, ?_⟩, fun j hj => yW_fr (h3 j hj) F (fun a g1 g2 g3 => ?_)⟩
  · rw [F.A (fun h => (hP 38 h).1 rfl)]; exact h1
  · rw [F.A (fun h => (hP 38 h).1 rfl)]; exact h2
  · have := (hP a g3).2
    omega
theorem yCI_upd (C : yCI t D k E s0 s1 n B eo en) (F : yFr P t u) (hP : ∀ a, P a → (3 ≤ a ∧ a < 136) ∨ 160 ≤ a) (W : yW u 7 D') (H : ∃ w, yH1 u k' w E') : yCI u D' k' E' s0 s1 n B eo en := by
  obtain ⟨-, -, ⟨⟨a1, a2⟩, a3, a4⟩, ⟨b1, b2, b3⟩, c1, c2⟩ := C
  have n0 : ¬ P 0 := fun h => by have := hP 0 h; omega
  have n1 : ¬ P 1 := fun h => by have := hP 1 h; omega
  have n2 : ¬ P 2 := fun h => by have := hP 2 h; omega
  refine ⟨W, H, ⟨⟨?_, ?_⟩, fun X hX => yW_fr (a3 X hX) F (fun a g1 g2 g3 => ?_), fun X hX => yW_fr (a4 X hX) F (fun a g1 g2 g3 => ?_)⟩, ⟨b1, ?_, fun i hi => ?_⟩, ?_, ?_⟩
  · rw [F.A n0]; exact a1
  · rw [F.A n0]; exact a2
  · have := hP a g3
    omega
  · have := hP a g3
    omega
  · rw [F.A n1]; exact b2
  · rw [F.A n2]; exact b3 i hi
  · rw [F.A n0]; exact c1
  · rw [F.A n0]; exact c2
theorem yCI_fr (C : yCI t D k E s0 s1 n B eo en) (F : yFr P t u) (hP : ∀ a, P a → (3 ≤ a ∧ a ≤ 5) ∨ (17 ≤ a ∧ a ≤ 37) ∨ 160 ≤ a) : yCI u D k E s0 s1 n B eo en := by
  obtain ⟨w, H⟩ := C.2.1
  exact yCI_upd C F (fun a h => by have := hP a h; omega) (yW_fr C.1 F (fun a g1 g2 g3 => by have := hP a g3; omega)) ⟨w, yH1_fr H F (fun a h => by have := hP a h; omega)⟩
theorem yH2_fr (H : yH2 t k E) (h16 : u.A 160 16 = t.A 160 16) (hA : ∀ a, 167 ≤ a → a ≤ 174 → u.A a = t.A a) : yH2 u k E := by
  obtain ⟨h0, h1, h2⟩ := H
  refine ⟨h0, by rw [h16]; exact h1, fun j hj => ?_⟩
  rw [hA _ (by omega) (by omega)]
  exact h2 j hj
/-- the model's half stays where its places and fields do -/
theorem yMI_upd (C : yMI t D k E s0 s1 n B eo en) (h2 : u.A 160 2 = t.A 160 2) (h7 : u.A 160 7 = t.A 160 7) (h8 : u.A 160 8 = t.A 160 8) (hA : ∀ a, a = 161 ∨ (176 ≤ a ∧ a ≤ 178) → u.A a = t.A a) (M : yM (u.A 162) D') (H : yH2 u k' E') : yMI u D' k' E' s0 s1 n B eo en := by
  obtain ⟨-, -, ⟨⟨a1, a2⟩, a3, a4⟩, ⟨b1, b2, b3⟩, c1, c2⟩ := C
  refine ⟨M, H, ⟨⟨?_, ?_⟩, fun X hX => ?_, fun X hX => ?_⟩, ⟨b1, ?_, fun i hi => ?_⟩, ?_, ?_⟩
  · rw [hA _ (by omega)]; exact a1
  · rw [hA _ (by omega)]; exact a2
  · rw [hA _ (by omega)]; exact a3 X hX
  · rw [hA _ (by omega)]; exact a4 X hX
  · rw [h2]; exact b2
  · rw [hA _ (by omega)]; exact b3 i hi
  · rw [h7]; exact c1
  · rw [h8]; exact c2
theorem yMI_fr (C : yMI t D k E s0 s1 n B eo en) (F : yFr P t u) (hP : ∀ a, P a → a < 160 ∨ (163 ≤ a ∧ a ≤ 165) ∨ 179 ≤ a) : yMI u D k E s0 s1 n B eo en := by
  have nP : ∀ a, 160 ≤ a → (a < 163 ∨ 165 < a) → a < 179 → ¬ P a := fun a g1 g2 g3 h => by have := hP a h; omega
  refine yMI_upd C ?_ ?_ ?_ (fun a ha => F.A (nP a (by omega) (by omega) (by omega))) (yM_ne C.1 F (nP 162 (by omega) (by omega) (by omega))) (yH2_fr C.2.1 ?_ (fun a g1 g2 => F.A (nP a (by omega) (by omega) (by omega))))
  all_goals rw [F.A (nP 160 (by omega) (by omega) (by omega))]
theorem yMI_s1 (C : yMI t D k E s0 s1 n B eo en) {j : Nat} {v : Int32} (hj : j ≠ 2 ∧ j ≠ 7 ∧ j ≠ 8 ∧ j ≠ 16) : yMI (t.s1 160 j v) D k E s0 s1 n B eo en := by
  refine yMI_upd C ?_ ?_ ?_ (fun a ha => ys1_ne (by omega)) (by rw [ys1_ne (by decide)]; exact C.1) (yH2_fr C.2.1 ?_ (fun a g1 g2 => ys1_ne (by omega)))
  all_goals rw [ys1_upd, yupd_ne (by omega)]
theorem yMI_c (C : yMI t D k E s0 s1 n B eo en) (F : yFc t u) : yMI u D k E s0 s1 n B eo en := by
  have hA : ∀ a, 160 ≤ a → a ≠ 183 → u.A a = t.A a := fun a h1 h2 => (F.1 a h1 h2).1
  refine yMI_upd C ?_ ?_ ?_ (fun a ha => hA a (by omega) (by omega)) (by rw [hA 162 (by decide) (by decide)]; exact C.1) (yH2_fr C.2.1 ?_ (fun a g1 g2 => hA a (by omega) (by omega)))
  all_goals rw [hA 160 (by decide) (by decide)]
theorem yCI_m (C : yCI t D k E s0 s1 n B eo en) (F : yFm t u) : yCI u D k E s0 s1 n B eo en := yCI_fr C F (fun a h => Or.inr (Or.inr h.1))
theorem yFc_fr (F : yFr P t u) (hP : ∀ a, P a → a < 160 ∨ a = 183) : yFc t u := by
  refine ⟨fun a h1 h2 => ?_, ?_, ⟨?_, ?_⟩, ?_⟩
  · have h3 : ¬ P a := fun h => by have := hP a h; omega
    exact ⟨F.A h3, F.L h3, F.R h3⟩
  · intro Z
    refine ⟨by rw [F.z]; exact Z.1, fun r hr => ?_⟩
    rw [F.z] at hr
    rw [F.K]
    exact Z.2 r hr
  · rw [F.z]; omega
  · rw [F.z]; omega
  · rw [F.z]
theorem yFc_bp : yFc t t.bp := by
  refine ⟨fun a _ _ => ⟨rfl, rfl, rfl⟩, fun Z => ⟨?_, fun r hr => ?_⟩, ⟨?_, ?_⟩, rfl⟩
  · rw [ybp_z]
    have := Z.1
    show 160 ≤ t.z.1.1 + 1
    omega
  · rw [ybp_K]
    have h : t.z.1.1 + 1 ≤ r := hr
    exact Z.2 r (by omega)
  · show t.z.1.1 + 1 ≤ t.z.1.1 + 3
    omega
  · show t.z.1.2 + 6 ≤ t.z.1.2 + 700
    omega
theorem yFc_out {j : Nat} {v : Int64} (F : yFc t u) : yFc t (u.sL 183 j v) := by
  refine ⟨fun a h1 h2 => ?_, F.2.1, F.2.2.1, F.2.2.2⟩
  rw [ysL_A, ysL_R, ysL_ne h2]
  exact F.1 a h1 h2
theorem yCI_bp (C : yCI t D k E s0 s1 n B eo en) : yCI t.bp D k E s0 s1 n B eo en := C
theorem yCI_out {j : Nat} {v : Int64} (C : yCI u D k E s0 s1 n B eo en) : yCI (u.sL 183 j v) D k E s0 s1 n B eo en :=
  yCI_fr C (yFr_sL (P := fun a => a = 183) rfl) (fun a h => by omega)
/-- how a call of both sides ends -/
abbrev yOK (t u : yT) (c : Int32) (v : Int64) : Prop := (yInv u ∧ (u.A 160 0 = c ∧ (c = 0 → u.L 183 0 = v))) ∧ ((u.z.1.1 ≤ t.z.1.1 + 3 ∧ u.z.1.2 ≤ t.z.1.2 + 700) ∧ u.z.2 = t.z.2)
theorem yOK_of {u1 : yT} {c : Int32} {v : Int64} (hZ : yZ t) (Fc : yFc t u1) (C1 : yCI u1 D k E s0 s1 n B eo en) (Fm : yFm u1 u) (M : yMI u D k E s0 s1 n B eo en) (hc : u.A 160 0 = c) (hv : c = 0 → u1.L 183 0 = v) : yOK t u c v := by
  have hZ1 := Fc.2.1 hZ
  refine ⟨⟨⟨⟨D, k, E, s0, s1, n, B, eo, en, yCI_m C1 Fm, M⟩, ?_, fun r hr => ?_⟩, hc, fun h => ?_⟩, ?_⟩
  · rw [Fm.z]; exact hZ1.1
  · rw [Fm.z] at hr
    rw [Fm.K]
    exact hZ1.2 r hr
  · rw [Fm.L (a := 183) (by omega)]
    exact hv h
  · rw [Fm.z]
    exact Fc.2.2
/-- remembering, with what stays -/
theorem q_6 {d : Nat} (C : yCI t D k E s0 s1 n B eo en) : ∃ u, Ra (d + 1) 6 [.ref 38, .ref 7] (yemb t) (.inl none) (yemb u) ∧ (yCI u D (min 8 (k + 1)) (ypush D E) s0 s1 n B eo en ∧ yFr (fun a => a = 38 ∨ (40 ≤ a ∧ a < 136)) t u) := by
  obtain ⟨w, H⟩ := C.2.1
  obtain ⟨u, hu, Hu, Fu⟩ := m_6 (d := d) C.1 H
  exact ⟨u, hu, yCI_upd C Fu (fun a h => by omega) (yW_fr C.1 Fu (fun a g1 g2 (g3 : a = 38 ∨ (40 ≤ a ∧ a < 136)) => by omega)) ⟨_, Hu⟩, Fu⟩
/-- a change of the strip itself, on each side -/
theorem yCI_D (C : yCI t D k E s0 s1 n B eo en) (F : yFr P t u) (hP : ∀ a, P a → (3 ≤ a ∧ a ≤ 37) ∨ 160 ≤ a) (W : yW u 7 D') : yCI u D' k E s0 s1 n B eo en := by
  obtain ⟨w, H⟩ := C.2.1
  exact yCI_upd C F (fun a h => by have := hP a h; omega) W ⟨w, yH1_fr H F (fun a h => by have := hP a h; omega)⟩
theorem yMI_D (C : yMI t D k E s0 s1 n B eo en) (F : yFr P t u) (hP : ∀ a, P a → a < 160 ∨ (162 ≤ a ∧ a ≤ 165) ∨ 179 ≤ a) (M : yM (u.A 162) D') : yMI u D' k E s0 s1 n B eo en := by
  have nP : ∀ a, 160 ≤ a → (a < 162 ∨ 165 < a) → a < 179 → ¬ P a := fun a g1 g2 g3 h => by have := hP a h; omega
  refine yMI_upd C ?_ ?_ ?_ (fun a ha => F.A (nP a (by omega) (by omega) (by omega))) M (yH2_fr C.2.1 ?_ (fun a g1 g2 => F.A (nP a (by omega) (by omega) (by omega))))
  all_goals rw [F.A (nP 160 (by omega) (by omega) (by omega))]
end

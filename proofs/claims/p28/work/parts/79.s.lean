/-! ===== the class's state under the law's hands ===== -/
theorem ydep_par {g : Nat → Int32} : ∀ n, (∀ i, i < n → (g i < -2 → 2 ≤ ydep g i)) → ydep g n % 2 = n % 2 := by
  intro n
  induction n with
  | zero => intro _; rfl
  | succ n ih =>
    intro h
    have h1 := ih (fun i hi => h i (by omega))
    show (if -2 ≤ g n then ydep g n + 1 else ydep g n - 1) % 2 = _
    split
    · omega
    · rename_i h2
      have := h n (by omega) (Int32.not_le.mp h2)
      omega
theorem pco_cv {n : Nat} {g : Nat → Int32} (h : yCok n g) : pco (.inl (0, (n, .inl g))) := by
  refine Or.inl ⟨n, .inl g, ?_, rfl⟩
  rcases h.2.1 with h0 | h0
  · exact Or.inl h0
  · refine Or.inr ?_
    have := ydep_par n (fun i hi => (h.2.2 i hi).2.2)
    rw [h0] at this
    omega
theorem yW_K {t u : yT} {o : Nat} {D : yD} (W : yW t o D) (hA : ∀ a, o ≤ a → a ≤ o + 9 → u.A a = t.A a) (hL : u.L o = t.L o) (hR : u.R o = t.R o) (hK : ∀ r e, t.K r = some e → pco e → u.K r = some e) : yW u o D := by
  refine ⟨W.ok, yV_of W.v hA hL hR ?_⟩
  have h := W.v.cv
  rw [hK _ _ h (pco_cv W.ok.cok), h]
section
variable {D : yD} {k : Nat} {E : Nat → yD} {s0 s1 : Option yD} {n n' : Nat} {B B' : Nat → Nat} {eo en : Int32} {t u : yT} {σ τ : xS} {P : Nat → Prop} {c s : Nat}
theorem yCI_K (C : yCI t D k E s0 s1 n B eo en) (hA : ∀ a, a ≠ 1 → a ≠ 2 → u.A a = t.A a) (hL : u.L = t.L) (hR : u.R = t.R) (hK : ∀ r e, t.K r = some e → pco e → u.K r = some e) (T : yT1 u n' B') : yCI u D k E s0 s1 n' B' eo en := by
  obtain ⟨C1, ⟨w, h12, ⟨h3, h4⟩, h5⟩, ⟨⟨b1, b2⟩, b3, b4⟩, -, e1, e2⟩ := C
  have wk : ∀ {o X}, yW t o X → 3 ≤ o → yW u o X := fun W ho => yW_K W (fun a g1 g2 => hA a (by omega) (by omega)) (by rw [hL]) (by rw [hR]) hK
  have a0 := hA 0 (by decide) (by decide)
  have a38 := hA 38 (by decide) (by decide)
  exact ⟨wk C1 (by decide), ⟨w, h12, ⟨by rw [a38]; exact h3, by rw [a38]; exact h4⟩, fun j hj => wk (h5 j hj) (by omega)⟩, ⟨⟨by rw [a0]; exact b1, by rw [a0]; exact b2⟩, fun X hX => wk (b3 X hX) (by decide), fun X hX => wk (b4 X hX) (by decide)⟩, T, by rw [a0]; exact e1, by rw [a0]; exact e2⟩
/-- the class's data with what a state has elsewhere -/
def pM (t : yT) (σ : xS) : yT := (t.A, (t.L, (t.R, (σ.1, σ.2))))
theorem pM_cell {a : Nat} (h : yla a ≠ none) : ycellT (pM t σ) a = ycellT t a := by
  unfold ycellT
  cases hl : yla a with
  | none => exact absurd hl h
  | some x =>
    rcases x with ⟨k, n⟩ | n | ⟨k, n, f⟩ | ⟨c, l⟩
    · rfl
    · rfl
    · rfl
    · have e : yfds (pM t σ) a 0 l = yfds t a 0 l := yfds_ext l (fun _ _ => rfl) (fun _ _ => rfl) (fun _ _ => rfl)
      simp only [e]
theorem pM_emb (h : ∀ a, a < 160 → σ.1 a = (yemb t).1 a) : yemb (pM t σ) = σ := by
  refine Prod.ext (funext fun a => ?_) rfl
  show ycellT (pM t σ) a = σ.1 a
  by_cases ha : yla a = none
  · unfold ycellT
    rw [ha]
    rfl
  · rw [pM_cell ha]
    by_cases h1 : a < 160
    · exact (h a h1).symm
    · exact absurd (yla_no (by omega)) ha
theorem yemb_no {a : Nat} (h : yla a = none) : (yemb t).1 a = t.K a := by
  show ycellT t a = _
  unfold ycellT
  rw [h]
theorem yemb_hi {a : Nat} (h : 160 ≤ a) : (yemb t).1 a = t.K a := yemb_no (yla_no h)
theorem yZ_p (Z : yZ t) : pZ (yemb t) := fun b hb => by
  have h := Z.1
  have hb' : t.z.1.1 ≤ b := hb
  rw [yemb_hi (by omega)]
  exact Z.2 b hb'
theorem pZ_y (h : 160 ≤ t.z.1.1) (Z : pZ (yemb t)) : yZ t := ⟨h, fun r hr => by
  have := Z r hr
  rw [yemb_hi (by omega)] at this
  exact this⟩
theorem pM_K (hK : ∀ r e, (yemb t).1 r = some e → pco e → σ.1 r = some e) (C : yCI t D k E s0 s1 n B eo en) : yCI (pM t σ) D k E s0 s1 n B eo en := by
  have T : yT1 (pM t σ) n B := C.2.2.2.1
  -- the curves' cells lie where the layout has nothing
  obtain ⟨C1, ⟨w, h12, h34, h5⟩, ⟨b12, b3, b4⟩, -, e12⟩ := C
  have wk : ∀ {o X}, yW t o X → yW (pM t σ) o X := fun {o X} W => by
    refine ⟨W.ok, yV_of W.v (fun _ _ _ => rfl) rfl rfl ?_⟩
    have h := W.v.cv
    have h1 : (yemb t).1 (t.R o) = some (.inl (0, (X.cn, .inl X.cg))) := by rw [yemb_no W.v.c1.1, h]
    show σ.1 (t.R o) = _
    rw [hK _ _ h1 (pco_cv W.ok.cok), h]
  exact ⟨wk C1, ⟨w, h12, h34, fun j hj => wk (h5 j hj)⟩, ⟨b12, fun X hX => wk (b3 X hX), fun X hX => wk (b4 X hX)⟩, T, e12⟩
/-- a state of the class -/
def pI (σ : xS) (D : yD) (k : Nat) (E : Nat → yD) (s0 s1 : Option yD) (n : Nat) (B : Nat → Nat) (eo en : Int32) : Prop := ∃ t, σ = yemb t ∧ (yCI t D k E s0 s1 n B eo en ∧ yZ t)
theorem pI.Z (I : pI σ D k E s0 s1 n B eo en) : pZ σ := by
  obtain ⟨t, rfl, -, Z⟩ := I
  exact yZ_p Z
theorem pI.n0 (I : pI σ D k E s0 s1 n B eo en) : 160 ≤ σ.2.1.1 := by
  obtain ⟨t, rfl, -, Z⟩ := I
  exact Z.1
theorem pI.ok (I : pI σ D k E s0 s1 n B eo en) : yDok D := by
  obtain ⟨t, rfl, C, Z⟩ := I
  exact C.1.ok
theorem pI_F (I : pI σ D k E s0 s1 n B eo en) (F : pF P c s σ τ) (h1 : ∀ b, P b → 160 ≤ b) (h2 : ∀ b e, σ.1 b = some e → pco e → ¬ P b) : pI τ D k E s0 s1 n B eo en := by
  obtain ⟨t, rfl, C, Z⟩ := I
  have Zp := yZ_p Z
  have hz : 160 ≤ (yemb t).2.1.1 := Z.1
  have e : yemb (pM t τ) = τ := pM_emb (fun a ha => F.1 a (by omega) (fun q => by have := h1 a q; omega))
  have hz' : 160 ≤ (pM t τ).z.1.1 := Nat.le_trans hz F.2.2.1.1
  refine ⟨pM t τ, e.symm, pM_K (fun r x hr hx => pF_keep Zp F hr (h2 r x hr hx)) C, pZ_y hz' ?_⟩
  rw [e]
  exact pZ_F Zp F
/-- what calls of the class may touch: the cells of the layout -/
abbrev pcl (b : Nat) : Prop := yla b ≠ none
theorem pcl_lt {b : Nat} (h : pcl b) : b < 160 := by
  by_cases q : b < 160
  · exact q
  · exact absurd (yla_no (by omega)) h
theorem pcl_n {b : Nat} (h : ¬ pcl b) : yla b = none := by
  by_cases q : yla b = none
  · exact q
  · exact absurd q h
def pyl (o : yLay) : Bool := match o with
  | some (.inl (k, n)) => decide (k = 0 → ¬ (n = 0 ∨ n % 2 = 1))
  | some (.inr (.inr (.inl (k, _)))) => decide (k ≠ 0)
  | some (.inr (.inr (.inr (c, _)))) => decide (c ≠ 10)
  | _ => true
theorem pyl_ok : ∀ b, b < 160 → pyl (yla b) = true := by decide
theorem pcl_co {b : Nat} {e : xE} (h : (yemb t).1 b = some e) (hc : pco e) : ¬ pcl b := by
  intro hp
  have hl := pyl_ok b (pcl_lt hp)
  have h' : ycellT t b = some e := h
  unfold ycellT at h'
  cases hy : yla b with
  | none => exact hp hy
  | some x =>
    rw [hy] at h' hl
    rcases x with ⟨k, n⟩ | n | ⟨k, n, f⟩ | ⟨c, l⟩
    · have h2 := (Option.some.inj h').symm
      subst h2
      have h3 := of_decide_eq_true hl
      rcases hc with ⟨m, y, h4, h5⟩ | ⟨fs, h5⟩
      · simp only [Sum.inl.injEq, Prod.mk.injEq] at h5
        obtain ⟨h6, h7, -⟩ := h5
        subst h7
        exact h3 h6 h4
      · simp at h5
    · have h2 := (Option.some.inj h').symm
      subst h2
      rcases hc with ⟨m, y, h4, h5⟩ | ⟨fs, h5⟩
      · simp at h5
      · simp at h5
    · have h2 := (Option.some.inj h').symm
      subst h2
      have h3 := of_decide_eq_true hl
      rcases hc with ⟨m, y, h4, h5⟩ | ⟨fs, h5⟩
      · simp only [Sum.inl.injEq, Prod.mk.injEq] at h5
        exact h3 h5.1
      · simp at h5
    · have h2 := (Option.some.inj h').symm
      subst h2
      have h3 := of_decide_eq_true hl
      rcases hc with ⟨m, y, h4, h5⟩ | ⟨fs, h5⟩
      · simp at h5
      · simp only [Sum.inr.injEq, Prod.mk.injEq] at h5
        exact h3 h5.1
theorem pI.co (I : pI σ D k E s0 s1 n B eo en) : ∀ b e, σ.1 b = some e → pco e → ¬ pcl b := by
  obtain ⟨t, rfl, -, -⟩ := I
  exact fun b e h hc => pcl_co h hc
theorem pF_y (F : yFr P t u) (Z : yZ t) : pF pcl 0 0 (yemb t) (yemb u) := by
  have hz : (yemb u).2 = (yemb t).2 := F.z
  have hk : ∀ b, yla b = none → (yemb u).1 b = (yemb t).1 b := fun b hb => by rw [yemb_no hb, yemb_no hb, F.K]
  have z1 := Z.1
  refine ⟨fun b _ hb => hk b (pcl_n hb), fun b hb => hk b (yla_no ?_), ⟨?_, ?_⟩, ?_, ?_⟩
  · rw [hz] at hb
    have : t.z.1.1 ≤ b := hb
    omega
  · rw [hz]; exact Nat.le_refl _
  · rw [hz]; exact Nat.le_refl _
  · rw [hz]; exact Nat.le_refl _
  · rw [hz]
/-- a call that leaves a state of the class -/
theorem pI_y {D' : yD} {k' : Nat} {E' : Nat → yD} {s0' s1' : Option yD} {eo' en' : Int32} (C : yCI u D' k' E' s0' s1' n' B' eo' en') (F : yFr P t u) (Z : yZ t) : pI (yemb u) D' k' E' s0' s1' n' B' eo' en' ∧ pF pcl 0 0 (yemb t) (yemb u) :=
  ⟨⟨u, rfl, C, yZ_fr Z F⟩, pF_y F Z⟩
theorem pI_bp (C : yCI t D k E s0 s1 n B eo en) (Z : yZ t) : pI (yemb t.bp) D k E s0 s1 n B eo en ∧ pF pcl 1 6 (yemb t) (yemb t.bp) := by
  have z1 := Z.1
  refine ⟨⟨t.bp, rfl, yCI_bp C, by show 160 ≤ t.z.1.1 + 1; omega, fun r hr => ?_⟩, fun b _ hb => ?_, fun b hb => ?_, ⟨?_, ?_⟩, ?_, rfl⟩
  · have : t.z.1.1 + 1 ≤ r := hr
    exact Z.2 r (by omega)
  · rw [yemb_no (pcl_n hb), yemb_no (pcl_n hb)]
    rfl
  · have h : t.z.1.1 + 1 ≤ b := hb
    rw [yemb_hi (by omega), yemb_hi (by omega)]
    rfl
  · show t.z.1.1 ≤ t.z.1.1 + 1; omega
  · show t.z.1.1 + 1 ≤ t.z.1.1 + 1; omega
  · show t.z.1.2 + 6 ≤ t.z.1.2 + 6; omega
end

/-! ===== the next pixel that gets its color sent ===== -/
section
variable {d : Nat} {t : yT} {D : yD} {Q : xR → xS → Prop}
theorem yb_1 {b : Bool} {α : Sort _} {x y : α} : (if yb b ≠ 1 then x else y) = if b = true then y else x := by
  cases b <;> rfl
end
/-! ===== the row goes along: both sides ===== -/
def ygo : Nat → Nat → Nat → yD → yD
  | 0, _, _, D => D
  | m + 1, p, f, D => if D.bp p = true then ygo m (p + 1) f D else if f < D.n then (if D.kd p = 1 then D.sfr (upd D.fr p (D.fr p + 1)) else ygo m (p + 1) (if ystut D p = true then f else ynx D.bp (D.n - (f + 1)) (f + 1)) (ytkS D p (D.du f) (yI f))) else D
theorem ygo_end {f : Nat} : ∀ m p (D : yD), D.n ≤ f → ygo m p f D = D := by
  intro m
  induction m with
  | zero => intro p D _; rfl
  | succ m ih =>
    intro p D h
    rw [ygo]
    split
    · exact ih (p + 1) D h
    · rw [if_neg (by omega)]
theorem ynx_ge {b : Nat → Bool} : ∀ n p, p ≤ ynx b n p := by
  intro n
  induction n with
  | zero => intro p; exact Nat.le_refl _
  | succ n ih =>
    intro p
    simp only [ynx]
    split
    · have := ih (p + 1)
      omega
    · exact Nat.le_refl _
theorem ynx_no {b : Nat → Bool} : ∀ n p, ynx b n p < p + n → b (ynx b n p) = false := by
  intro n
  induction n with
  | zero =>
    intro p h
    simp only [ynx] at h
    omega
  | succ n ih =>
    intro p h
    simp only [ynx] at h ⊢
    split
    · rename_i hb
      rw [if_pos hb] at h
      exact ih (p + 1) (by omega)
    · rename_i hb
      exact Bool.eq_false_iff.mpr hb
theorem ygo_skip {f : Nat} : ∀ m p (D : yD), ygo m p f D = ygo (p + m - ynx D.bp m p) (ynx D.bp m p) f D := by
  intro m
  induction m with
  | zero => intro p D; simp [ynx, ygo]
  | succ m ih =>
    intro p D
    by_cases hb : D.bp p = true
    · have h := ih (p + 1) D
      simp only [ynx, hb, if_true]
      rw [show p + (m + 1) = p + 1 + m by omega, ← h, ygo, if_pos hb]
    · simp only [ynx, hb, if_false, Bool.false_eq_true]
      rw [show p + (m + 1) - p = m + 1 by omega]
theorem ytk_out {D0 : yD} {b : Nat → Bool} : ∀ m p f r (D : yD), D0.n ≤ f → ytk (yrw D0 b m p f r) m p D = D := by
  intro m
  induction m with
  | zero => intro p f r D _; rfl
  | succ m ih =>
    intro p f r D h
    have h0 : yrw D0 b (m + 1) p f r p = -1 := by
      simp only [yrw]
      rw [if_neg (by omega), yrw_lo _ _ _ _ _ (by omega), yupd_same]
    rw [ytk, h0, if_pos (by decide)]
    simp only [yrw]
    rw [if_neg (by omega)]
    exact ih (p + 1) f _ D h
/-- of two strips: what the row's way depends on is the same, frames from p on -/
abbrev yag (D0 D : yD) (p : Nat) : Prop := D.n = D0.n ∧ (D.bp = D0.bp ∧ (D.kd = D0.kd ∧ (D.pd = D0.pd ∧ (D.du = D0.du ∧ ∀ q, p ≤ q → D.fr q = D0.fr q))))
theorem ygo_eq {D0 : yD} (hn : D0.n ≤ 40) : ∀ m p f r (D : yD), yag D0 D p → p + m = D0.n → ytk (yrw D0 D0.bp m p f r) m p D = ygo m p f D := by
  intro m
  induction m with
  | zero => intro p f r D _ _; rfl
  | succ m ih =>
    intro p f r D hA hp
    obtain ⟨a1, a2, a3, a4, a5, a6⟩ := hA
    rw [ygo, a2, a1]
    by_cases hf : f < D0.n
    · cases hb : D0.bp p
      · have h0 : yrw D0 D0.bp (m + 1) p f r p = yI f := by
          simp only [yrw, hf, if_true, hb, Bool.false_eq_true, if_false]
          rw [yrw_lo _ _ _ _ _ (by omega), yupd_same]
        have h1 : ¬ yI f < 0 := yI_nneg (by omega)
        have h2 : (yI f).toNatClampNeg = f := yI_clamp (by omega)
        rw [if_neg (by decide), if_pos hf, ytk, h0, if_neg h1, h2]
        by_cases hk : D.kd p = 1
        · rw [if_pos hk, if_pos hk]
          have hk0 : D0.kd p = 1 := by rw [← a3]; exact hk
          simp only [yrw, hf, if_true, hb, Bool.false_eq_true, if_false, ybeg, hk0]
          exact ytk_out m (p + 1) D0.n _ _ (Nat.le_refl _)
        · rw [if_neg hk, if_neg hk]
          have hk0 : ¬ D0.kd p = 1 := by rw [← a3]; exact hk
          have hst : ystut D p = ystut D0 p := by
            unfold ystut
            rw [a3, a4, a6 p (Nat.le_refl _)]
          simp only [yrw, hf, if_true, hb, Bool.false_eq_true, if_false, ybeg, hk0]
          rw [hst]
          refine ih (p + 1) _ _ _ ⟨a1, a2, a3, a4, a5, fun q hq => ?_⟩ (by omega)
          rw [ytkS_fr, yupd_ne (by omega)]
          exact a6 q (by omega)
      · have h0 : yrw D0 D0.bp (m + 1) p f r p = -1 := by
          simp only [yrw, hf, if_true, hb]
          rw [yrw_lo _ _ _ _ _ (by omega), yupd_same]
        rw [if_pos rfl, ytk, h0, if_pos (by decide)]
        simp only [yrw, hf, if_true, hb]
        exact ih (p + 1) f _ D ⟨a1, a2, a3, a4, a5, fun q hq => a6 q (by omega)⟩ (by omega)
    · rw [ytk_out (m + 1) p f r D (by omega), if_neg hf]
      split
      · rw [ygo_end m (p + 1) D (by omega)]
      · rfl
/-- the row goes along once -/
def ypassD (D : yD) : yD := ygo D.n 0 (ynx D.bp D.n 0) D
theorem ytaken_go {D : yD} (h : yDok D) : ytaken D = ypassD D := ygo_eq h.n40 D.n 0 _ _ D ⟨rfl, rfl, rfl, rfl, rfl, fun _ _ => rfl⟩ (Nat.zero_add _)
theorem ygo_ok : ∀ m p f (D : yD), yDok D → yDok (ygo m p f D) := by
  intro m
  induction m with
  | zero => intro p f D h; exact h
  | succ m ih =>
    intro p f D h
    have h40 := h.n40
    rw [ygo]
    split
    · exact ih _ _ _ h
    · split
      · split
        · exact yDok_sfr h
        · exact ih _ _ _ (yDok_tkS h (by omega))
      · exact h
section
variable {d : Nat}
theorem yirem {x y : Int32} (hy : ¬ y = 0) : (x - x / y * y = 0 ↔ x - x / y * y = 0) := Iff.rfl
end

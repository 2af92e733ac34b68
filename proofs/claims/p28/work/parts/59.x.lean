/-! ===== items and bytes ===== -/
section
variable {n : Nat} {B : Nat → Nat} {fac : Nat → List Int32 → yPs}
theorem yap1 {l : List Int32} {v : Int32} : (l ++ [v]).length = l.length + 1 := by
  rw [List.length_append]
  rfl
theorem ytl_len (hf : yfwd n fac) (hl : ylen n fac) : ∀ m q l q' l', q ≤ n → ytl n B fac m q l = .inr (q', l') → l'.length + q ≤ l.length + q' := by
  intro m
  induction m with
  | zero =>
    intro q l q' l' hq h
    cases h
    exact Nat.le_refl _
  | succ m ih =>
    intro q l q' l' hq h
    rw [ytl] at h
    cases hm : ymul n B q
    · rw [hm, if_neg (by decide)] at h
      cases h
      exact Nat.le_refl _
    · rw [hm, if_pos rfl] at h
      have hlt := ymul_lt hm
      have hs := ysk_le (n := n) (B := B) (m := q + 1) (by omega)
      obtain ⟨q1, l1, h1, h2⟩ := ythen_in h
      have h3 := hf _ _ _ _ hs.2 h1
      have h5 := hl _ _ _ _ hs.2 h1
      have h4 := ih _ _ _ _ h3.2 h2
      rw [yap1] at h4
      omega
theorem ytm_len (hf : yfwd n fac) (hl : ylen n fac) {q : Nat} {l : List Int32} {q' : Nat} {l' : List Int32} (hq : q ≤ n) (h : ytm' n B fac q l = .inr (q', l')) : l'.length + q ≤ l.length + q' := by
  obtain ⟨q1, l1, h1, h2⟩ := ythen_in h
  have h3 := hf _ _ _ _ hq h1
  have h5 := hl _ _ _ _ hq h1
  have h4 := ytl_len hf hl _ _ _ _ _ h3.2 h2
  omega
theorem ysl_len (hf : yfwd n fac) (hl : ylen n fac) : ∀ m q l q' l', q ≤ n → ysl n B fac m q l = .inr (q', l') → l'.length + q ≤ l.length + q' := by
  intro m
  induction m with
  | zero =>
    intro q l q' l' hq h
    cases h
    exact Nat.le_refl _
  | succ m ih =>
    intro q l q' l' hq h
    rw [ysl] at h
    cases hm : yadd n B q
    · rw [hm, if_neg (by decide)] at h
      cases h
      exact Nat.le_refl _
    · rw [hm, if_pos rfl] at h
      have hlt := yadd_lt hm
      have hs := ysk_le (n := n) (B := B) (m := q + 1) (by omega)
      obtain ⟨q1, l1, h1, h2⟩ := ythen_in h
      have h3 := ytm_fwd hf hs.2 h1
      have h5 := ytm_len hf hl hs.2 h1
      have h4 := ih _ _ _ _ h3.2 h2
      rw [yap1] at h4
      omega
theorem ysu_len (hf : yfwd n fac) (hl : ylen n fac) {q : Nat} {l : List Int32} {q' : Nat} {l' : List Int32} (hq : q ≤ n) (h : ysu n B fac q l = .inr (q', l')) : l'.length + q ≤ l.length + q' := by
  obtain ⟨q1, l1, h1, h2⟩ := ythen_in h
  have h3 := ytm_fwd hf hq h1
  have h5 := ytm_len hf hl hq h1
  have h4 := ysl_len hf hl _ _ _ _ _ h3.2 h2
  omega
theorem yleaf_len : ylen n (yleaf n B) := by
  intro q l q' l' hq h
  have h0 := yleaf_fwd _ _ _ _ hq h
  have h1 : l'.length = l.length + 1 := by
    unfold yleaf at h
    split at h
    · cases h; exact yap1
    · split at h
      · cases h; exact yap1
      · split at h
        · cases h; exact yap1
        · cases h
  omega
theorem yfac_len : ∀ k, ylen n (yfac n B k) := by
  intro k
  induction k with
  | zero =>
    intro q l q' l' hq h
    rw [yfac] at h
    split at h
    · cases h
    · exact yleaf_len _ _ _ _ hq h
  | succ k ih =>
    intro q l q' l' hq h
    rw [yfac] at h
    split at h
    · rename_i hc
      have hlt := (of_decide_eq_true hc).1
      have hs := ysk_le (n := n) (B := B) (m := q + 1) (by omega)
      obtain ⟨q1, l1, h1, h2⟩ := ythen_in h
      have h3 := ysu_fwd (yfac_fwd k) hs.2 h1
      have h4 := ysu_len (yfac_fwd k) ih hs.2 h1
      split at h2
      · rename_i hc2
        have hlt2 := (of_decide_eq_true hc2).1
        have hs2 := ysk_le (n := n) (B := B) (m := q1 + 1) (by omega)
        cases h2
        omega
      · cases h2
    · exact yleaf_len _ _ _ _ hq h
theorem yopc_mul {q : Nat} (h : ymul n B q = true) : yopc n B q = -5 ∨ yopc n B q = -6 := by
  unfold ymul at h
  unfold yopc
  rw [Bool.or_eq_true] at h
  rcases h with h | h
  · rw [yat_1 (e := 43) (by decide) h, yat_1 (e := 45) (by decide) h, h]
    exact Or.inl rfl
  · rw [yat_1 (e := 43) (by decide) h, yat_1 (e := 45) (by decide) h, yat_1 (e := 42) (by decide) h, h]
    exact Or.inr rfl
theorem yopc_add {q : Nat} (h : yadd n B q = true) : yopc n B q = -3 ∨ yopc n B q = -4 := by
  unfold yadd at h
  unfold yopc
  rw [Bool.or_eq_true] at h
  rcases h with h | h
  · rw [h]
    exact Or.inl rfl
  · rw [yat_1 (e := 43) (by decide) h, h]
    exact Or.inr rfl
/-- a sign is one byte long -/
theorem yte_sg {q c : Nat} (h : yat n B q c = true) (hd : ydg c = false) (hl : yle c = false) : yte n B q = q + 1 := by
  have h' := of_decide_eq_true h
  rw [yte, if_neg (by omega), h'.2, hd, hl]
  rfl
theorem yte_op {q : Nat} (h : ymul n B q = true ∨ yadd n B q = true) : yte n B q = q + 1 := by
  unfold ymul yadd at h
  rw [Bool.or_eq_true, Bool.or_eq_true] at h
  rcases h with (h | h) | (h | h)
  · exact yte_sg h (by decide) (by decide)
  · exact yte_sg h (by decide) (by decide)
  · exact yte_sg h (by decide) (by decide)
  · exact yte_sg h (by decide) (by decide)
end
def yRq (run : xR → xS → Prop) (t : yT) (n : Nat) (B : Nat → Nat) (r : yPs) : Prop := match r with
  | .inr (q', l') => ∃ u, run (.inl (some (.int 1))) (yemb u) ∧ (yTk u n B q' ∧ (yIt u l' ∧ yKs t u))
  | .inl (c, a) => ∃ u, run (.inl (some (.int 0))) (yemb u) ∧ (u.A 1 8 = c ∧ (u.A 1 9 = yI a ∧ yKe t u))
theorem yRq_to {run1 run2 : xR → xS → Prop} {t0 t : yT} {n : Nat} {B : Nat → Nat} {r : yPs} (hK : yKs t0 t) (h : ∀ r' s', run1 r' s' → run2 r' s') (H : yRq run1 t n B r) : yRq run2 t0 n B r := by
  rcases r with ⟨c, a⟩ | ⟨q', l'⟩
  · obtain ⟨u, h1, h2, h3, h4⟩ := H
    exact ⟨u, h _ _ h1, h2, h3, yKs_e hK h4⟩
  · obtain ⟨u, h1, h2, h3, h4⟩ := H
    exact ⟨u, h _ _ h1, h2, h3, yKs_tr hK h4⟩

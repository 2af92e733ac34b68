/-! ===== words ===== -/
theorem yw_spec {P : Nat → Bool} {B : Nat → Nat} : ∀ m i, (∀ j, i ≤ j → j < yw P B m i → P (B j) = true) ∧ (yw P B m i < i + m → P (B (yw P B m i)) = false) := by
  intro m
  induction m with
  | zero => intro i; exact ⟨fun j h1 h2 => by simp only [yw] at h2; omega, fun h => by simp only [yw] at h; omega⟩
  | succ m ih =>
    intro i
    obtain ⟨h1, h2⟩ := ih (i + 1)
    rw [yw]
    cases hc : P (B i)
    · rw [if_neg (by decide)]
      exact ⟨fun j g1 g2 => by omega, fun _ => hc⟩
    · rw [if_pos rfl]
      refine ⟨fun j g1 g2 => ?_, fun h => h2 (by omega)⟩
      by_cases e : j = i
      · rw [e]; exact hc
      · exact h1 j (by omega) g2
theorem yw_at {P : Nat → Bool} {B : Nat → Nat} {m i e : Nat} (h1 : i ≤ e) (h2 : e ≤ i + m) (h3 : ∀ j, i ≤ j → j < e → P (B j) = true) (h4 : e < i + m → P (B e) = false) : yw P B m i = e := by
  obtain ⟨g1, g2⟩ := yw_spec (P := P) (B := B) m i
  have g3 := yw_le (P := P) (B := B) m i
  by_cases c1 : yw P B m i < e
  · have := g2 (by omega)
    rw [h3 _ g3.1 c1] at this
    cases this
  · by_cases c2 : e < yw P B m i
    · have := g1 e h1 c2
      rw [h4 (by omega)] at this
      cases this
    · omega
/-- how far the text w goes along from q, and whether it stands there as a word -/
def ymt (n : Nat) (B : Nat → Nat) (q i : Nat) : Nat → Nat → Nat
  | 0, k => k
  | m + 1, k => if q + k < n ∧ B (q + k) = ywc i k then ymt n B q i m (k + 1) else k
theorem ymt_le {n : Nat} {B : Nat → Nat} {q i : Nat} : ∀ m k, k ≤ ymt n B q i m k ∧ ymt n B q i m k ≤ k + m := by
  intro m
  induction m with
  | zero => intro k; exact ⟨Nat.le_refl _, Nat.le_refl _⟩
  | succ m ih =>
    intro k
    have := ih (k + 1)
    rw [ymt]
    split <;> omega
theorem ymt_all {n : Nat} {B : Nat → Nat} {q i : Nat} : ∀ m k, ymt n B q i m k = k + m ↔ ∀ j, k ≤ j → j < k + m → q + j < n ∧ B (q + j) = ywc i j := by
  intro m
  induction m with
  | zero => intro k; exact ⟨fun _ j h1 h2 => by omega, fun _ => rfl⟩
  | succ m ih =>
    intro k
    have h := ih (k + 1)
    rw [ymt]
    split
    · rename_i hc
      rw [show k + (m + 1) = k + 1 + m by omega, h]
      constructor
      · intro g j h1 h2
        by_cases e : j = k
        · rw [e]; exact hc
        · exact g j (by omega) h2
      · intro g j h1 h2
        exact g j (by omega) h2
    · rename_i hc
      constructor
      · intro g; omega
      · intro g; exact absurd (g k (Nat.le_refl _) (by omega)) hc
def yisw (n : Nat) (B : Nat → Nat) (q i : Nat) : Bool := decide (ymt n B q i (ywl i) 0 = ywl i) && !(decide (q + ywl i < n) && yle (B (q + ywl i)))
/-- as the class asks -/
theorem yisw_c {n : Nat} {B : Nat → Nat} {q i : Nat} (hi : i < 14) (hq : q ≤ n) : yisw n B q i = true ↔ (ytkind n B q = 2 ∧ (yte n B q = q + ywl i ∧ ∀ j, j < ywl i → B (q + j) = ywc i j)) := by
  obtain ⟨⟨b1, b2⟩, b3⟩ := yw_ok i hi
  have hall := ymt_all (n := n) (B := B) (q := q) (i := i) (ywl i) 0
  rw [Nat.zero_add] at hall
  unfold yisw
  rw [Bool.and_eq_true, decide_eq_true_iff, hall]
  have lt : ∀ j, j < ywl i → yle (ywc i j) = true := fun j hj => decide_eq_true (b3 j hj).1
  constructor
  · rintro ⟨h1, h2⟩
    have hb : ∀ j, j < ywl i → q + j < n ∧ B (q + j) = ywc i j := fun j hj => h1 j (Nat.zero_le _) hj
    have h0 := hb 0 (by omega)
    rw [Nat.add_zero] at h0
    have hl0 : yle (B q) = true := by rw [h0.2]; exact lt 0 (by omega)
    have hd0 : ydg (B q) = false := by
      have h := of_decide_eq_true hl0
      exact decide_eq_false (by omega)
    have hn : ¬ n ≤ q := by omega
    have hlast := hb (ywl i - 1) (by omega)
    refine ⟨?_, ?_, fun j hj => (hb j hj).2⟩
    · rw [ytkind, if_neg hn, hd0, if_neg (by decide), hl0, if_pos rfl]
    · rw [yte, if_neg hn, hd0, if_neg (by decide), hl0, if_pos rfl]
      refine yw_at (by omega) (by omega) (fun j g1 g2 => ?_) (fun g => ?_)
      · have h := hb (j - q) (by omega)
        rw [show q + (j - q) = j by omega] at h
        rw [h.2]
        exact lt _ (by omega)
      · have hlt : q + ywl i < n := by omega
        rw [decide_eq_true hlt, Bool.true_and] at h2
        cases hx : yle (B (q + ywl i))
        · rfl
        · rw [hx] at h2; cases h2
  · rintro ⟨h1, h2, h3⟩
    have hn : ¬ n ≤ q := by
      intro h
      rw [ytkind, if_pos h] at h1
      cases h1
    have hd0 : ydg (B q) = false := by
      cases hx : ydg (B q)
      · rfl
      · rw [ytkind, if_neg hn, hx, if_pos rfl] at h1
        cases h1
    have hl0 : yle (B q) = true := by
      cases hx : yle (B q)
      · rw [ytkind, if_neg hn, hd0, if_neg (by decide), hx, if_neg (by decide)] at h1
        cases h1
      · rfl
    rw [yte, if_neg hn, hd0, if_neg (by decide), hl0, if_pos rfl] at h2
    have g3 := yw_le (P := yle) (B := B) (n - q) q
    obtain ⟨g1, g2⟩ := yw_spec (P := yle) (B := B) (n - q) q
    rw [h2] at g2 g3
    refine ⟨fun j _ hj => ⟨by omega, h3 j hj⟩, ?_⟩
    by_cases hlt : q + ywl i < n
    · rw [g2 (by omega)]
      rw [Bool.and_false]
      rfl
    · rw [decide_eq_false hlt]
      rfl

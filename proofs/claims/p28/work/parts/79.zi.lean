/-! ===== what is written is read: tokens ===== -/
/-- w stands at q -/
def pAt (B : Nat → Nat) (q : Nat) (w : List Nat) : Prop := ∀ i, i < w.length → B (q + i) = pbt w i
theorem pAt_cat {B : Nat → Nat} {q : Nat} {w u : List Nat} : pAt B q (w ++ u) ↔ pAt B q w ∧ pAt B (q + w.length) u := by
  unfold pAt
  rw [List.length_append]
  constructor
  · intro h
    refine ⟨fun i hi => ?_, fun i hi => ?_⟩
    · rw [h i (by omega), pbt_cat, if_pos hi]
    · have := h (w.length + i) (by omega)
      rw [pbt_cat, if_neg (by omega), Nat.add_sub_cancel_left] at this
      rw [← this, Nat.add_assoc]
  · rintro ⟨h1, h2⟩ i hi
    rw [pbt_cat]
    by_cases h : i < w.length
    · rw [if_pos h]
      exact h1 i h
    · rw [if_neg h, ← h2 (i - w.length) (by omega), Nat.add_assoc, show w.length + (i - w.length) = i by omega]
theorem pAt_one {B : Nat → Nat} {q b : Nat} : pAt B q [b] ↔ B q = b := by
  constructor
  · intro h
    exact h 0 (Nat.zero_lt_one)
  · intro h i hi
    have : i = 0 := Nat.lt_one_iff.mp hi
    subst this
    exact h
theorem pAt_cons {B : Nat → Nat} {q b : Nat} {w : List Nat} : pAt B q (b :: w) ↔ B q = b ∧ pAt B (q + 1) w := by
  have := pAt_cat (B := B) (q := q) (w := [b]) (u := w)
  rw [pAt_one] at this
  exact this
theorem yw_run {P : Nat → Bool} {B : Nat → Nat} : ∀ L m q, (∀ i, i < L → P (B (q + i)) = true) → L ≤ m → (m = L ∨ P (B (q + L)) = false) → yw P B m q = q + L := by
  intro L
  induction L with
  | zero =>
    intro m q _ _ h
    cases m with
    | zero => rfl
    | succ m =>
      rcases h with h | h
      · omega
      · rw [yw, if_neg (by rw [show B q = B (q + 0) from rfl, h]; decide)]
        rfl
  | succ L ih =>
    intro m q h1 h2 h3
    obtain ⟨m, rfl⟩ : ∃ m', m = m' + 1 := ⟨m - 1, by omega⟩
    rw [yw, if_pos (show P (B q) = true from h1 0 (by omega)), ih m (q + 1) (fun i hi => by rw [Nat.add_assoc, Nat.add_comm 1 i]; exact h1 (i + 1) (by omega)) (by omega) (by
      rcases h3 with h3 | h3
      · exact Or.inl (by omega)
      · exact Or.inr (by rw [Nat.add_assoc, Nat.add_comm 1 L]; exact h3))]
    omega
/-- nothing of a token follows -/
abbrev pEnd (n : Nat) (B : Nat → Nat) (q : Nat) : Prop := q = n ∨ (ydg (B q) = false ∧ yle (B q) = false)
section
variable {n : Nat} {B : Nat → Nat} {q : Nat}
theorem ysk_no (hq : q ≤ n) (h : q = n ∨ B q ≠ 32) : ysk n B q = q := by
  unfold ysk
  exact yw_run 0 _ _ (fun i hi => absurd hi (Nat.not_lt_zero _)) (Nat.zero_le _) (by
    rcases h with h | h
    · exact Or.inl (by omega)
    · exact Or.inr (decide_eq_false h))
theorem ysk_one (hq : q < n) (h1 : B q = 32) (h : q + 1 = n ∨ B (q + 1) ≠ 32) : ysk n B q = q + 1 := by
  unfold ysk
  exact yw_run 1 _ _ (fun i hi => by
    have : i = 0 := Nat.lt_one_iff.mp hi
    subst this
    exact decide_eq_true h1) (by omega) (by
    rcases h with h | h
    · exact Or.inl (by omega)
    · exact Or.inr (decide_eq_false h))
theorem pdg_dig {v : Nat} : ∀ k i, i < k + 1 → ydg (pbt (pdg k v) i) = true := by
  intro k
  induction k with
  | zero =>
    intro i hi
    have : i = 0 := by omega
    subst this
    exact decide_eq_true (show 48 ≤ 48 + v / 1 % 10 ∧ 48 + v / 1 % 10 ≤ 57 by omega)
  | succ k ih =>
    intro i hi
    cases i with
    | zero => exact decide_eq_true (show 48 ≤ 48 + v / 10 ^ (k + 1) % 10 ∧ 48 + v / 10 ^ (k + 1) % 10 ≤ 57 by omega)
    | succ i => exact ih i (by omega)
theorem pvm {v : Nat} : ∀ k m q acc, pAt B q (pdg k v) → k + 1 ≤ m → (m = k + 1 ∨ ydg (B (q + (k + 1))) = false) → acc * 10 ^ (k + 1) + v % 10 ^ (k + 1) < 100000000 → yvm B m q acc = acc * 10 ^ (k + 1) + v % 10 ^ (k + 1) := by
  intro k
  induction k with
  | zero =>
    intro m q acc h hm he hb
    have h0 : B q = 48 + v / 1 % 10 := h 0 Nat.zero_lt_one
    rw [Nat.div_one] at h0
    obtain ⟨m, rfl⟩ : ∃ m', m = m' + 1 := ⟨m - 1, by omega⟩
    rw [show (10 : Nat) ^ (0 + 1) = 10 from rfl] at hb ⊢
    have hd : ydg (B q) = true := by rw [h0]; exact decide_eq_true (by omega)
    rw [yvm, if_pos hd, h0, show 10 * acc + (48 + v % 10) - 48 = acc * 10 + v % 10 by omega, Nat.min_eq_right (by omega)]
    cases m with
    | zero => rfl
    | succ m =>
      rcases he with he | he
      · omega
      · rw [yvm, if_neg (by rw [show B (q + 1) = B (q + (0 + 1)) from rfl, he]; decide)]
  | succ k ih =>
    intro m q acc h hm he hb
    obtain ⟨h0, h1⟩ := pAt_cons.mp (show pAt B q ((48 + v / 10 ^ (k + 1) % 10) :: pdg k v) from h)
    obtain ⟨m, rfl⟩ : ∃ m', m = m' + 1 := ⟨m - 1, by omega⟩
    have hd : ydg (B q) = true := by rw [h0]; exact decide_eq_true (by omega)
    have hmod : v % 10 ^ (k + 1 + 1) = v % 10 ^ (k + 1) + 10 ^ (k + 1) * (v / 10 ^ (k + 1) % 10) := Nat.mod_pow_succ
    have hp : 10 ^ (k + 1 + 1) = 10 ^ (k + 1) * 10 := Nat.pow_succ _ _
    have hp1 : 1 ≤ 10 ^ (k + 1) := Nat.pow_pos (by decide)
    have e : (acc * 10 + v / 10 ^ (k + 1) % 10) * 10 ^ (k + 1) + v % 10 ^ (k + 1) = acc * 10 ^ (k + 1 + 1) + v % 10 ^ (k + 1 + 1) := by
      rw [hmod, hp, Nat.add_mul, Nat.mul_comm (v / 10 ^ (k + 1) % 10), Nat.mul_assoc, Nat.mul_comm 10]
      omega
    have hle : acc * 10 + v / 10 ^ (k + 1) % 10 ≤ (acc * 10 + v / 10 ^ (k + 1) % 10) * 10 ^ (k + 1) := Nat.le_mul_of_pos_right _ hp1
    rw [yvm, if_pos hd, h0, show 10 * acc + (48 + v / 10 ^ (k + 1) % 10) - 48 = acc * 10 + v / 10 ^ (k + 1) % 10 by omega, Nat.min_eq_right (by omega)]
    rw [ih m (q + 1) _ h1 (by omega) (by
      rcases he with he | he
      · exact Or.inl (by omega)
      · exact Or.inr (by rw [Nat.add_assoc, Nat.add_comm 1]; exact he)) (by omega), e]
/-- a number is read -/
theorem pnum {v : Nat} (hv : v < 10000) (h : pAt B q (pdec v)) (hq : q + (pdec v).length ≤ n) (he : q + (pdec v).length = n ∨ ydg (B (q + (pdec v).length)) = false) : (yw ydg B (n - q) q = q + (pdec v).length ∧ yvm B (n - q) q 0 = v) ∧ ((q < n ∧ ydg (B q) = true) ∧ ∀ lo hi, ynum n B q lo hi = decide (lo ≤ v ∧ v ≤ hi)) := by
  have hl : (pdec v).length = pdn v + 1 := by unfold pdec; rw [pdg_len]
  have hp : v < 10 ^ (pdn v + 1) := (pdn_lt hv (by omega) (by have := pdn_le (n := v); omega)).mpr (by omega)
  have hd : ∀ i, i < (pdec v).length → ydg (B (q + i)) = true := fun i hi => by
    rw [h i hi]
    unfold pdec
    exact pdg_dig _ _ (by rw [← hl]; exact hi)
  have he' : n - q = (pdec v).length ∨ ydg (B (q + (pdec v).length)) = false := by
    rcases he with he | he
    · exact Or.inl (by omega)
    · exact Or.inr he
  have h1 := yw_run (P := ydg) (B := B) (pdec v).length (n - q) q hd (by omega) he'
  have h2 := pvm (B := B) (v := v) (pdn v) (n - q) q 0 h (by omega) (by rw [← hl]; exact he') (by rw [Nat.zero_mul, Nat.mod_eq_of_lt hp]; omega)
  rw [Nat.zero_mul, Nat.zero_add, Nat.mod_eq_of_lt hp] at h2
  have h3 : q < n ∧ ydg (B q) = true := ⟨by omega, hd 0 (by omega)⟩
  refine ⟨⟨h1, h2⟩, h3, fun lo hi => ?_⟩
  unfold ynum
  rw [h2, decide_eq_true h3.1, h3.2]
  rfl
/-- a word is read, and no other one -/
theorem pword_yes {i : Nat} (hi : i < 14) (h : pAt B q (ptw i)) (hq : q + ywl i ≤ n) (he : pEnd n B (q + ywl i)) : (∀ j, j < 14 → yisw n B q j = decide (j = i)) ∧ (B q ≠ 32 ∧ ydg (B q) = false) := by
  obtain ⟨⟨b1, b2⟩, b3⟩ := yw_ok i hi
  have hB : ∀ j, j < ywl i → B (q + j) = ywc i j := fun j hj => by
    rw [h j (by rw [ptw_len]; exact hj), ptw_bt hj]
  have hl : ∀ j, j < ywl i → yle (B (q + j)) = true := fun j hj => by
    rw [hB j hj]
    exact decide_eq_true (b3 j hj).1
  have h0 : B q = ywc i 0 := hB 0 (by omega)
  have h97 := (b3 0 (by omega)).1
  have hdg : ydg (B q) = false := by rw [h0]; exact decide_eq_false (by omega)
  have hrun := yw_run (P := yle) (B := B) (ywl i) (n - q) q hl (by omega) (by
    rcases he with he | he
    · exact Or.inl (by omega)
    · exact Or.inr he.2)
  have hk : ytkind n B q = 2 := by
    unfold ytkind
    rw [if_neg (by omega), if_neg (by rw [hdg]; decide), if_pos (show yle (B q) = true from hl 0 (by omega))]
  have hte : yte n B q = q + ywl i := by
    unfold yte
    rw [if_neg (by omega), if_neg (by rw [hdg]; decide), if_pos (show yle (B q) = true from hl 0 (by omega)), hrun]
  refine ⟨fun j hj => ?_, by omega, hdg⟩
  by_cases hij : j = i
  · subst hij
    rw [decide_eq_true rfl]
    exact (yisw_c hi (by omega)).mpr ⟨hk, hte, hB⟩
  · rw [decide_eq_false hij]
    cases hy : yisw n B q j
    · rfl
    · obtain ⟨-, g2, g3⟩ := (yisw_c hj (by omega)).mp hy
      have hlen : ywl j = ywl i := by omega
      have all : ∀ a, a < 14 → ∀ b, b < 14 → ywl a = ywl b → (∀ c, c < ywl a → ywc a c = ywc b c) → a = b := by decide
      exact absurd (all j hj i hi hlen (fun c hc => by rw [← g3 c hc, hB c (by omega)])) hij
theorem pword_no (h : ydg (B q) = true ∨ B q = 40) : ∀ j, j < 14 → q ≤ n → yisw n B q j = false := by
  intro j hj hq
  cases hy : yisw n B q j
  · rfl
  · obtain ⟨g1, -, -⟩ := (yisw_c hj hq).mp hy
    unfold ytkind at g1
    split at g1
    · cases g1
    · rcases h with h | h
      · rw [if_pos h] at g1
        cases g1
      · have h1 : ydg (B q) = false := by rw [h]; rfl
        have h2 : yle (B q) = false := by rw [h]; rfl
        rw [if_neg (by rw [h1]; decide), if_neg (by rw [h2]; decide)] at g1
        cases g1
theorem pyat {c : Nat} (hq : q < n) (h : B q = c) : yat n B q c = true := decide_eq_true ⟨hq, h⟩
theorem pyat_no {c : Nat} (h : B q ≠ c) : yat n B q c = false := decide_eq_false (fun g => h g.2)
end

/-! ===== words read by both sides ===== -/
set_option maxRecDepth 30000 in
theorem ysb_neg : ∀ b, b < 256 → 128 ≤ b → ysb b < 0 := by decide
theorem ysb_eq {b c : Nat} (hb : b < 256) (hc : c < 128) : ysb b = yI c ↔ b = c := by
  by_cases h : b < 128
  · rw [ysb_lo b h, yI_inj (by omega) (by omega)]
  · have h1 := ysb_neg b hb (by omega)
    constructor
    · intro h2
      rw [h2] at h1
      exact absurd h1 (yI_nneg (by omega))
    · intro h2
      omega
theorem ybt_le {n : Nat} {B : Nat → Nat} {q : Nat} (Y : ∀ i, i < n → B i < 256) : decide ((97 : Int32) ≤ ybt n B q ∧ ybt n B q ≤ 122) = (decide (q < n) && yle (B q)) := by
  unfold ybt
  by_cases h : q < n
  · have := Y q h
    rw [if_pos h, decide_eq_true h, Bool.true_and]
    exact yI_in (a := 97) (c := 122) (by decide) (by omega) (by decide)
  · rw [if_neg h, decide_eq_false h]
    rfl
def yeqw (B : Nat → Nat) (q i : Nat) : Nat → Nat → Bool
  | 0, _ => true
  | m + 1, k => if B (q + k) = ywc i k then yeqw B q i m (k + 1) else false
theorem yeqw_all {B : Nat → Nat} {q i : Nat} : ∀ m k, yeqw B q i m k = true ↔ ∀ j, k ≤ j → j < k + m → B (q + j) = ywc i j := by
  intro m
  induction m with
  | zero => intro k; exact ⟨fun _ j h1 h2 => by omega, fun _ => rfl⟩
  | succ m ih =>
    intro k
    rw [yeqw]
    split
    · rename_i hc
      rw [ih]
      constructor
      · intro g j h1 h2
        by_cases e : j = k
        · rw [e]; exact hc
        · exact g j (by omega) (by omega)
      · intro g j h1 h2
        exact g j (by omega) (by omega)
    · rename_i hc
      constructor
      · intro g; cases g
      · intro g; exact absurd (g k (Nat.le_refl _) (by omega)) hc
theorem yte_ge {n : Nat} {B : Nat → Nat} {q : Nat} : q ≤ yte n B q := by
  unfold yte
  have h1 := yw_le (P := ydg) (B := B) (n - q) q
  have h2 := yw_le (P := yle) (B := B) (n - q) q
  split
  · omega
  · split
    · omega
    · split <;> omega
theorem ytkind_le {n : Nat} {B : Nat → Nat} {q : Nat} : ytkind n B q ≤ 3 := by
  unfold ytkind
  split
  · decide
  · split
    · decide
    · split <;> decide
section
variable {d : Nat}
theorem gs_217 {i k j pc nn : Nat} {y : Int} {ls : xL} {st : List Value} {σ : xS} {Q : xR → xS → Prop} (hi : i < 14) (hf : ft k j = some (pc, .invokevirtual nn, [217, 1, 0, y])) : G (d + 1) k j ls (.ref (1000100 + i) :: st) σ Q ↔ xcat st ≤ 8 ∧ Cl d 217 [.ref (1000100 + i)] σ (Gk (d + 1) k j ls st Q) :=
  gs_call hf ((xinv_call (i := j) (n := y) (ls := ls) (kind := 0) (σ := σ) (by decide)).trans (xcall_s [.ref (1000100 + i)] hi rfl rfl (show (1 : Nat) ≤ 1 by decide) rfl))
theorem gs_218 {i k j pc nn : Nat} {y : Int} {ls : xL} {st : List Value} {σ : xS} {Q : xR → xS → Prop} {x : Int32} (hi : i < 14) (hf : ft k j = some (pc, .invokevirtual nn, [218, 2, 0, y])) : G (d + 1) k j ls (.int x :: .ref (1000100 + i) :: st) σ Q ↔ xcat st ≤ 8 ∧ Cl d 218 [.ref (1000100 + i), .int x] σ (Gk (d + 1) k j ls st Q) :=
  gs_call hf ((xinv_call (i := j) (n := y) (ls := ls) (kind := 0) (σ := σ) (by decide)).trans (xcall_s [.int x, .ref (1000100 + i)] hi rfl rfl (show (2 : Nat) ≤ 2 by decide) rfl))
variable {n : Nat} {B : Nat → Nat}
end

/-! ===== the model's setups: a new draft, a text begins ===== -/
/-- the origins of pixels p and on -/
def ylo : Nat → Nat → (Nat → Int32) → (Nat → Int32)
  | 0, _, F => F
  | m + 1, p, F => ylo m (p + 1) (upd F (8 + 8 * p + 6) (-1))
theorem ylo_ne {j : Nat} : ∀ m p F, (∀ q, p ≤ q → q < p + m → j ≠ 8 + 8 * q + 6) → ylo m p F j = F j := by
  intro m
  induction m with
  | zero => intro p F _; rfl
  | succ m ih =>
    intro p F h
    rw [ylo, ih (p + 1) _ (fun q h1 h2 => h q (by omega) (by omega)), yupd_ne (h p (Nat.le_refl _) (by omega))]
theorem ylo_at {q : Nat} : ∀ m p F, p ≤ q → q < p + m → ylo m p F (8 + 8 * q + 6) = -1 := by
  intro m
  induction m with
  | zero => intro p F h1 h2; omega
  | succ m ih =>
    intro p F h1 h2
    rw [ylo]
    by_cases e : p = q
    · rw [e, ylo_ne _ _ _ (fun r g1 g2 => by omega), yupd_same]
    · exact ih (p + 1) _ (by omega) (by omega)
def ylay0 (S : Nat → Int32) (x y : Int32) : Nat → Int32 := upd (upd (upd (upd (upd (fun j => if j < 1540 then 0 else S j) 0 x) 1 y) 2 255) 3 1) 329 9999
def ylay (S : Nat → Int32) (x y : Int32) : Nat → Int32 := ylo 40 0 (ylay0 S x y)
theorem ylay_z {S : Nat → Int32} {x y : Int32} {j : Nat} (h : j < 1540) (h1 : 3 < j) (h2 : j ≠ 329) (h3 : ∀ q, q < 40 → j ≠ 8 + 8 * q + 6) : ylay S x y j = 0 := by
  unfold ylay ylay0
  rw [ylo_ne _ _ _ (fun q _ h5 => h3 q (by omega)), yupd_ne h2, yupd_ne (by omega), yupd_ne (by omega), yupd_ne (by omega), yupd_ne (by omega)]
  exact if_pos h
theorem yN_lay {S : Nat → Int32} {n m : Nat} : yN (ylay S (yI n) (yI m)) (yD0 n m) := by
  have h0 : ∀ j, j < 8 → ylay S (yI n) (yI m) j = ylay0 S (yI n) (yI m) j := fun j hj => ylo_ne _ _ _ (fun q _ _ => by omega)
  have hz : ∀ p w, p < 40 → w < 8 → w ≠ 6 → ylay S (yI n) (yI m) (8 + 8 * p + w) = 0 := fun p w h1 h2 h3 => ylay_z (by omega) (by omega) (by omega) (fun q hq => by omega)
  refine ⟨?_, ?_, ?_, ?_, ?_, ?_, ?_, ?_, ?_, ?_, ?_, ?_, ?_, ?_, ?_, ?_, ?_, ?_, ?_⟩
  · rw [h0 0 (by decide)]; rfl
  · rw [h0 1 (by decide)]; rfl
  · rw [h0 2 (by decide)]; rfl
  · rw [h0 3 (by decide)]; rfl
  · rw [h0 4 (by decide)]; rfl
  · rw [h0 5 (by decide)]; rfl
  · rw [h0 6 (by decide)]; rfl
  · rw [h0 7 (by decide)]; rfl
  · intro p hp; exact hz p 0 hp (by decide) (by decide)
  · intro p hp; exact hz p 2 hp (by decide) (by decide)
  · intro p hp; exact hz p 3 hp (by decide) (by decide)
  · intro p hp; exact hz p 4 hp (by decide) (by decide)
  · intro p hp; exact hz p 5 hp (by decide) (by decide)
  · intro p hp; exact ylo_at _ _ _ (Nat.zero_le _) (by omega)
  · intro p hp; exact hz p 7 hp (by decide) (by decide)
  · intro p hp
    rw [hz p 1 hp (by decide) (by decide)]
    show 0 = yb ((0 : Nat).testBit p)
    rw [Nat.zero_testBit]
    rfl
  · intro g hg
    rw [yD0_f] at hg
    obtain rfl : g = 0 := by omega
    exact ylay_z (by decide) (by decide) (by decide) (fun q hq => by omega)
  · intro g hg
    rw [yD0_f] at hg
    obtain rfl : g = 0 := by omega
    show ylay S (yI n) (yI m) 329 = 9999
    unfold ylay ylay0
    rw [ylo_ne _ _ _ (fun q _ _ => by omega), yupd_same]
  · intro i hi
    rw [yD0_cn] at hi
    omega
section
variable {d a : Nat}
end
def ybeg0 (t : yT) (n : Int32) : yT := (((((((((t.s1 160 2 0).s1 160 3 n).s1 160 4 0).s1 160 5 0).s1 160 6 (-1)).s1 160 18 0).s1 160 19 0).sL 160 20 0).sL 160 21 0).s1 160 23 0
theorem ybeg0_A {t : yT} {n : Int32} : (ybeg0 t n).A 160 = upd (upd (upd (upd (upd (upd (upd (upd (t.A 160) 2 0) 3 n) 4 0) 5 0) 6 (-1)) 18 0) 19 0) 23 0 := by
  unfold ybeg0
  rw [ys1_upd, ysL_A, ysL_A, ys1_upd, ys1_upd, ys1_upd, ys1_upd, ys1_upd, ys1_upd, ys1_upd]
theorem ybeg0_F {t : yT} {n : Int32} : yFr (fun a => a = 160) t (ybeg0 t n) := by
  have s : ∀ (w : yT) (j : Nat) (v : Int32), yFr (fun a => a = 160) t w → yFr (fun a => a = 160) t (w.s1 160 j v) := fun w j v F => F.trans (yFr_s1 (P := fun a => a = 160) rfl) (fun a h => h.elim id id)
  have l : ∀ (w : yT) (j : Nat) (v : Int64), yFr (fun a => a = 160) t w → yFr (fun a => a = 160) t (w.sL 160 j v) := fun w j v F => F.trans (yFr_sL (P := fun a => a = 160) rfl) (fun a h => h.elim id id)
  exact s _ _ _ (l _ _ _ (l _ _ _ (s _ _ _ (s _ _ _ (s _ _ _ (s _ _ _ (s _ _ _ (s _ _ _ (s _ _ _ yFr.rfl')))))))))

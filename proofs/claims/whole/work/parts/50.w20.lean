/-! ===== the next pixel that isn't bypassed, on both sides ===== -/
def ynx (D : yD) : Nat → Nat → Nat
  | 0, p => p
  | n + 1, p => if D.bp p = true then ynx D n (p + 1) else p
theorem ynx_eq {t : yT} {o : Nat} {D : yD} (W : yW t o D) : ∀ n p, p + n ≤ 40 → ynext D (t.L o 15) n p = ynx D n p := by
  intro n
  induction n with
  | zero => intro p _; rfl
  | succ n ih =>
    intro p hp
    simp only [ynext, ynx, W.bp p (show p < 40 by omega)]
    rw [ih (p + 1) (by omega)]
section
variable {d : Nat} {t : yT} {D : yD} {Q : xR → xS → Prop}
theorem yb_1 {b : Bool} {α : Sort _} {x y : α} : (if yb b ≠ 1 then x else y) = if b = true then y else x := by
  cases b <;> rfl
theorem l_178 (M : yM (t.A 162) D) : ∀ n p (l1 : Option Value), p + n = D.n → (G (d + 2) 178 4 [some (.ref 160), l1, some (.int (yI p))] [] (yemb t) Q ↔ Q (.inl (some (.int (yI (ynx D n p))))) (yemb t)) := by
  have hn40 := M.ok.n40
  intro n
  induction n with
  | zero =>
    intro p l1 hp
    have h1 : yI D.n ≤ yI p := (yI_le (by omega) (by omega)).mpr (by omega)
    rw [s_178_4]
    simp only [s_178_0, s_178_1, s_178_2, s_178_3, s_178_5, s_178_6, s_178_7, s_178_8, s_178_9, s_178_10, s_178_11, s_178_12, s_178_13, s_178_14, s_178_15, s_178_16, s_178_17, s_178_18, s_178_19, yO_160, yA_162, yn_162, yix0, ycl0, M.n, h1, if_true, true_and, ynx]
  | succ n ih =>
    intro p l1 hp
    have h1 : ¬ yI D.n ≤ yI p := fun h => absurd ((yI_le (by omega) (by omega)).mp h) (by omega)
    have h4 : yI p + 1 = yI (p + 1) := yI_add
    rw [s_178_4]
    cases hb : D.bp p
    · simp only [s_178_0, s_178_1, s_178_2, s_178_3, s_178_5, s_178_6, s_178_7, s_178_8, s_178_9, s_178_10, s_178_11, s_178_12, s_178_13, s_178_14, s_178_15, s_178_16, s_178_17, s_178_18, s_178_19, yO_160, yA_162, yn_162, yix0, ycl0, M.n, h1, if_false, true_and, mo_bp M (show p < 40 by omega), Gk_v, xcat_nil, xcat_i, xcat_r, Nat.zero_le, Nat.reduceAdd, Nat.reduceLeDiff, yb_1, hb, Bool.false_eq_true, ynx]
    · simp only [s_178_0, s_178_1, s_178_2, s_178_3, s_178_5, s_178_6, s_178_7, s_178_8, s_178_9, s_178_10, s_178_11, s_178_12, s_178_13, s_178_14, s_178_15, s_178_16, s_178_17, s_178_18, s_178_19, yO_160, yA_162, yn_162, yix0, ycl0, M.n, h1, if_false, true_and, mo_bp M (show p < 40 by omega), Gk_v, xcat_nil, xcat_i, xcat_r, Nat.zero_le, Nat.reduceAdd, Nat.reduceLeDiff, yb_1, hb, if_true, ynx, h4, ih (p + 1) _ (show p + 1 + n = D.n by omega)]
theorem m_178 (M : yM (t.A 162) D) {i : Int32} {p : Nat} (hi : i + 1 = yI p) (hp : p ≤ D.n) : Cl (d + 2) 178 [.ref 160, .int i] (yemb t) Q ↔ Q (.inl (some (.int (yI (ynx D (D.n - p) p))))) (yemb t) := by
  show G (d + 2) 178 0 [some (.ref 160), some (.int i), none] [] (yemb t) Q ↔ _
  simp only [s_178_0, s_178_1, s_178_2, s_178_3, ykl_i, hi]
  exact l_178 M (D.n - p) p _ (by omega)
end

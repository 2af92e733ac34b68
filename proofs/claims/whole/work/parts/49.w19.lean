/-! ===== strips: takeRow whole ===== -/
theorem yupd_ne {f : Nat → Int32} {a b : Nat} {v : Int32} (h : b ≠ a) : upd f a v b = f b := by
  unfold upd
  rw [if_neg h]
theorem yupd_same {f : Nat → Int32} {a : Nat} {v : Int32} : upd f a v a = v := by
  unfold upd
  rw [if_pos rfl]
theorem yrw_lo {D : yD} {s : Int64} : ∀ n p first r k, k < p → yrw D s n p first r k = r k := by
  intro n
  induction n with
  | zero => intro p first r k _; rfl
  | succ n ih =>
    intro p first r k hk
    simp only [yrw]
    split
    · split
      · rw [ih _ _ _ _ (by omega), yupd_ne (by omega)]
      · rw [ih _ _ _ _ (by omega), yupd_ne (by omega), yupd_ne (by omega)]
    · rw [ih _ _ _ _ (by omega), yupd_ne (by omega)]
theorem yrw_val {D : yD} {s : Int64} (hn : D.n ≤ 40) : ∀ n p first r k, p ≤ k → k < p + n → (yrw D s n p first r k = -1 ∨ ∃ q, q < 40 ∧ yrw D s n p first r k = yI q) := by
  intro n
  induction n with
  | zero => intro p first r k h1 h2; omega
  | succ n ih =>
    intro p first r k h1 h2
    simp only [yrw]
    by_cases e : k = p
    · subst e
      split
      · rename_i hf
        split
        · left
          rw [yrw_lo _ _ _ _ _ (by omega), yupd_same]
        · right
          refine ⟨first, by omega, ?_⟩
          rw [yrw_lo _ _ _ _ _ (by omega), yupd_same]
      · left
        rw [yrw_lo _ _ _ _ _ (by omega), yupd_same]
    · split
      · split <;> exact ih _ _ _ _ (by omega) (by omega)
      · exact ih _ _ _ _ (by omega) (by omega)
section
variable {d o : Nat} {D : yD} {t : yT} {Q : xR → xS → Prop}
theorem yW_rows {f : Nat → Int32} (W : yW t o D) : yW (t.sA (o + 10) f) o D := by
  refine ⟨W.ok, W.oo, ?_, ?_, ?_, ?_, ?_, ?_, W.bp, ?_, ?_, ?_, ?_, ?_, ?_, ?_, ?_, ?_⟩
  · rw [ysA_ne (by omega)]; exact W.n
  · rw [ysA_ne (by omega)]; exact W.un
  · rw [ysA_ne (by omega)]; exact W.lv
  · rw [ysA_ne (by omega)]; exact W.f
  · rw [ysA_ne (by omega)]; exact W.sh
  · rw [ysA_ne (by omega)]; exact W.ac
  · rw [ysA_ne (by omega)]; exact W.fm
  · rw [ysA_ne (by omega)]; exact W.du
  · rw [ysA_ne (by omega)]; exact W.kd
  · rw [ysA_ne (by omega)]; exact W.pd
  · rw [ysA_ne (by omega)]; exact W.fr
  · rw [ysA_ne (by omega)]; exact W.tk
  · rw [ysA_ne (by omega)]; exact W.og
  · rw [ysA_ne (by omega)]; exact W.fp
  · rw [ysA_ne (by omega)]; exact W.fl
/-- takeRow: the strip and the cells behind it -/
def ytook (D : yD) (o : Nat) (t : yT) : yD × yT := yt54 o (ysent D (t.L o 15) (t.A (o + 10))) D.n 0 D (t.sA (o + 10) (ysent D (t.L o 15) (t.A (o + 10))))
theorem m_54 (W : yW t o D) : (Cl (d + 3) 54 [.ref o] (yemb t) Q ↔ Q (.inl none) (yemb (ytook D o t).2)) ∧ yW (ytook D o t).2 o (ytook D o t).1 := by
  have hn40 := W.ok.n40
  have W1 := yW_rows (f := ysent D (t.L o 15) (t.A (o + 10))) W
  have hr : ∀ p, p < D.n → ysent D (t.L o 15) (t.A (o + 10)) p = -1 ∨ ∃ q, q < 40 ∧ ysent D (t.L o 15) (t.A (o + 10)) p = yI q := fun p hp => yrw_val hn40 D.n 0 _ _ p (Nat.zero_le _) (by omega)
  have key := fun l2 => l_54 (d := d + 3) (Q := Q) hr D.n 0 _ D l2 W1 ysA_same rfl (Nat.zero_add _)
  refine ⟨?_, (key none).2⟩
  show G (d + 3) 54 0 [some (.ref o), none, none] [] (yemb t) Q ↔ _
  simp only [s_54_0, s_54_1, s_54_2 W.oo, s_54_3 W.oo, s_54_4, s_54_5, m_55 W, Gk_n, xcat_nil, Nat.zero_le, Nat.reduceAdd, true_and, ykl_r]
  exact (key none).1
end

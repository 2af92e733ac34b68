/-! ===== the model's sums: what is no sum ===== -/
theorem ysk_idem {n : Nat} {B : Nat → Nat} {m : Nat} (h : m ≤ n) : ysk n B (ysk n B m) = ysk n B m := by
  have h1 := ysk_le (n := n) (B := B) h
  have h2 := (yw_spec (P := ysp) (B := B) (n - m) m).2
  show yw ysp B (n - ysk n B m) (ysk n B m) = ysk n B m
  refine yw_at (Nat.le_refl _) (by omega) (fun j g1 g2 => by omega) (fun g => ?_)
  refine h2 ?_
  show ysk n B m < m + (n - m)
  omega
theorem yisw_dg {n : Nat} {B : Nat → Nat} {q i : Nat} (hi : i < 14) (hq : q ≤ n) (h : (decide (q < n) && ydg (B q)) = true) : yisw n B q i = false := by
  rw [Bool.and_eq_true, decide_eq_true_iff] at h
  cases hx : yisw n B q i
  · rfl
  · have := ((yisw_c hi hq).mp hx).1
    rw [ytkind, if_neg (by omega), h.2, if_pos rfl] at this
    cases this
section
variable {d : Nat} {n : Nat} {B : Nat → Nat}
/-- two codes more: an item that is no operation -/
theorem ypush2 {t : yT} {l : List Int32} {v : Int32} (h5 : t.A 160 5 = 0) (J : yJs (t.A 163) l) (h : l.length < 600) (hv : -2 ≤ v) : ∃ u1 u, Ra (d + 1) 138 [.ref 160, .int (ycode v)] (yemb t) (.inl none) (yemb u1) ∧ (Ra (d + 1) 138 [.ref 160, .int (ycval v)] (yemb u1) (.inl none) (yemb u) ∧ (yJs (u.A 163) (l ++ [v]) ∧ ((∀ j, j < 340 → j ≠ 7 → u.A 163 j = t.A 163 j) ∧ yFr (fun a => a = 163) t u))) := by
  have hk := yJs_k (S := t.A 163) h
  have g1 := m_138 (d := d) h5 J.2.1 (by omega) (c := ycode v)
  have h5' : ((t.s1 163 (340 + ycp (yg l) l.length) (ycode v)).s1 163 7 (yI (ycp (yg l) l.length + 1))).A 160 5 = 0 := by
    rw [ys1_ne (by decide), ys1_ne (by decide)]
    exact h5
  have g2 := m_138 (d := d) h5' ys1_same (by omega) (c := ycval v)
  refine ⟨_, _, g1, g2, ?_, fun j hj h7 => ?_, (((yFr_s1 (P := fun a => a = 163) rfl).trans (yFr_s1 (P := fun a => a = 163) rfl) (P'' := fun a => a = 163) (fun a h => by omega)).trans (yFr_s1 (P := fun a => a = 163) rfl) (P'' := fun a => a = 163) (fun a h => by omega)).trans (yFr_s1 (P := fun a => a = 163) rfl) (fun a h => by omega)⟩
  · simp only [ys1_upd]
    exact yJs_leaf J h hv
  · simp only [ys1_upd]
    rw [yupd_ne h7, yupd_ne (by omega), yupd_ne h7, yupd_ne (by omega)]
theorem ypush1 {t : yT} {l : List Int32} {v : Int32} (h5 : t.A 160 5 = 0) (J : yJs (t.A 163) l) (h : l.length < 600) (hv : ¬ -2 ≤ v) : ∃ u, Ra (d + 1) 138 [.ref 160, .int (-1 - v)] (yemb t) (.inl none) (yemb u) ∧ (yJs (u.A 163) (l ++ [v]) ∧ ((∀ j, j < 340 → j ≠ 7 → u.A 163 j = t.A 163 j) ∧ yFr (fun a => a = 163) t u)) := by
  have hk := yJs_k (S := t.A 163) h
  have g1 := m_138 (d := d) h5 J.2.1 (by omega) (c := -1 - v)
  refine ⟨_, g1, ?_, fun j hj h7 => ?_, (yFr_s1 (P := fun a => a = 163) rfl).trans (yFr_s1 (P := fun a => a = 163) rfl) (fun a h => by omega)⟩
  · simp only [ys1_upd]
    exact yJs_op J h hv
  · simp only [ys1_upd]
    rw [yupd_ne h7, yupd_ne (by omega)]
end

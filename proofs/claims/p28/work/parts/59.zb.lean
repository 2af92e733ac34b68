/-! ===== the model's sums: an item more ===== -/
theorem ycp_top {l : List Int32} {v : Int32} : ycp (yg (l ++ [v])) (l ++ [v]).length = ycp (yg l) l.length + (if -2 ≤ v then 2 else 1) := by
  rw [yap1, ycp, yg_at, ycp_lo (Nat.le_refl _)]
  split <;> rfl
theorem ycp_far {l : List Int32} {i : Nat} (h : i < l.length) : ycp (yg l) i + (if -2 ≤ yg l i then 2 else 1) ≤ ycp (yg l) l.length := by
  have := ycp_bk (yg l) (l.length - (i + 1)) i
  rwa [show i + 1 + (l.length - (i + 1)) = l.length by omega] at this
theorem yJs_op {S : Nat → Int32} {l : List Int32} {v : Int32} (J : yJs S l) (h : l.length < 600) (hv : ¬ -2 ≤ v) : yJs (upd (upd S (340 + ycp (yg l) l.length) (-1 - v)) 7 (yI (ycp (yg l) l.length + 1))) (l ++ [v]) := by
  have h0 : ¬ (0 : Int32) ≤ v := fun h' => hv (Int32.le_trans (by decide) h')
  refine ⟨by rw [yap1]; omega, ?_, fun i hi => ?_⟩
  · rw [yupd_same, ycp_top, if_neg hv]
  · rw [yap1] at hi
    by_cases e : i = l.length
    · subst e
      rw [ycp_lo (Nat.le_refl _), yg_at, yupd_ne (by omega), yupd_same]
      refine ⟨?_, fun h' => absurd h' hv⟩
      rw [ycode, if_neg h0, if_neg hv]
    · have hf := ycp_far (l := l) (i := i) (by omega)
      have hj := J.2.2 i (by omega)
      rw [ycp_lo (by omega), yg_lo (by omega), yupd_ne (by omega), yupd_ne (by split at hf <;> omega)]
      refine ⟨hj.1, fun h' => ?_⟩
      rw [if_pos h'] at hf
      rw [yupd_ne (by omega), yupd_ne (by omega)]
      exact hj.2 h'
theorem yJs_leaf {S : Nat → Int32} {l : List Int32} {v : Int32} (J : yJs S l) (h : l.length < 600) (hv : -2 ≤ v) : yJs (upd (upd (upd (upd S (340 + ycp (yg l) l.length) (ycode v)) 7 (yI (ycp (yg l) l.length + 1))) (340 + (ycp (yg l) l.length + 1)) (ycval v)) 7 (yI (ycp (yg l) l.length + 1 + 1))) (l ++ [v]) := by
  refine ⟨by rw [yap1]; omega, ?_, fun i hi => ?_⟩
  · rw [yupd_same, ycp_top, if_pos hv]
  · rw [yap1] at hi
    by_cases e : i = l.length
    · subst e
      rw [ycp_lo (Nat.le_refl _), yg_at, yupd_ne (by omega), yupd_ne (by omega), yupd_ne (by omega), yupd_same]
      refine ⟨rfl, fun _ => ?_⟩
      rw [yupd_ne (by omega), show 340 + ycp (yg l) l.length + 1 = 340 + (ycp (yg l) l.length + 1) by omega, yupd_same]
    · have hf := ycp_far (l := l) (i := i) (by omega)
      have hj := J.2.2 i (by omega)
      have hf1 : ycp (yg l) i < ycp (yg l) l.length := by split at hf <;> omega
      rw [ycp_lo (by omega), yg_lo (by omega), yupd_ne (by omega), yupd_ne (by omega), yupd_ne (by omega), yupd_ne (by omega)]
      refine ⟨hj.1, fun h' => ?_⟩
      rw [if_pos h'] at hf
      rw [yupd_ne (by omega), yupd_ne (by omega), yupd_ne (by omega), yupd_ne (by omega)]
      exact hj.2 h'
theorem yJs_0 {S : Nat → Int32} (h : S 7 = 0) : yJs S [] := ⟨Nat.zero_le _, h, fun i hi => absurd hi (Nat.not_lt_zero _)⟩
theorem yJs_k {S : Nat → Int32} {l : List Int32} (h : l.length < 600) : ycp (yg l) l.length + 1 < 1200 := by
  have := ycp_2 (yg l) l.length
  omega
/-- what the model's reading leaves as it is -/
abbrev yKj (t u : yT) : Prop := (∀ j, j ≠ 4 → j ≠ 5 → j ≠ 6 → j ≠ 17 → j ≠ 18 → u.A 160 j = t.A 160 j) ∧ ((∀ j, j < 340 → j ≠ 7 → u.A 163 j = t.A 163 j) ∧ (yFr (fun a => a = 160 ∨ a = 163) t u ∧ u.L 160 = t.L 160))
theorem yKj_tr {t u v : yT} (h1 : yKj t u) (h2 : yKj u v) : yKj t v := by
  refine ⟨fun j a b c e f => by rw [h2.1 j a b c e f, h1.1 j a b c e f], fun j a b => by rw [h2.2.1 j a b, h1.2.1 j a b], h1.2.2.1.trans h2.2.2.1 (fun a h => by omega), h2.2.2.2.trans h1.2.2.2⟩
/-- the model reads well up to m, with items l and k nestings -/
abbrev yMr (t : yT) (n : Nat) (B : Nat → Nat) (m : Nat) (l : List Int32) (k : Nat) : Prop := yYt t n B ∧ (m ≤ n ∧ (t.A 160 4 = yI m ∧ (t.A 160 5 = 0 ∧ (t.A 160 18 = yI k ∧ (yJs (t.A 163) l ∧ t.A 160 6 = -1)))))
/-- a reading call of the model that does as the pure reader says -/
def yMz (run : yT → Prop) (t : yT) (n : Nat) (B : Nat → Nat) (k : Nat) (r : yPs) : Prop := match r with
  | .inr (q', l') => ∃ u m', run u ∧ (yMr u n B m' l' k ∧ (ysk n B m' = q' ∧ yKj t u))
  | .inl (c, a) => ∃ u, run u ∧ (¬ u.A 160 5 = 0 ∧ (u.A 160 5 = c ∧ (u.A 160 6 = yI a ∧ yKj t u)))
theorem yMz_to {run1 run2 : yT → Prop} {t0 t : yT} {n : Nat} {B : Nat → Nat} {k : Nat} {r : yPs} (hK : yKj t0 t) (h : ∀ u, run1 u → run2 u) (H : yMz run1 t n B k r) : yMz run2 t0 n B k r := by
  rcases r with ⟨c, a⟩ | ⟨q', l'⟩
  · obtain ⟨u, h1, h2, h3, h4, h5⟩ := H
    exact ⟨u, h _ h1, h2, h3, h4, yKj_tr hK h5⟩
  · obtain ⟨u, m', h1, h2, h3, h4⟩ := H
    exact ⟨u, m', h _ h1, h2, h3, yKj_tr hK h4⟩

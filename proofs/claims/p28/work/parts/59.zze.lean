/-! ===== the model's scripts: words, numbers, repeats ===== -/
/-- the model reads well up to m, with c commands -/
abbrev yMc (t : yT) (n : Nat) (B : Nat → Nat) (m c : Nat) : Prop := yYt t n B ∧ (m ≤ n ∧ (t.A 160 4 = yI m ∧ ((t.A 160 5 = 0 ∧ t.A 160 6 = -1) ∧ t.A 160 23 = yI c)))
abbrev yGm (t : yT) (lo hi : Nat) (T : yTb) : Prop := ∀ i, lo ≤ i → i < hi → t.A 179 (7 * i) = yI (T.1 i) ∧ ((∀ j, j < ynb (T.1 i) → t.A 179 (7 * i + 1 + j) = yI (T.2.1 i j)) ∧ (T.1 i = 5 → t.A 179 (7 * i + 6) = yI (T.2.2 i)))
abbrev yKde (t u : yT) : Prop := (∀ j, j ≠ 4 → j ≠ 5 → j ≠ 6 → j ≠ 17 → j ≠ 23 → u.A 160 j = t.A 160 j) ∧ yFr (fun a => a = 160 ∨ a = 179) t u
abbrev yKd (t u : yT) (c : Nat) : Prop := yKde t u ∧ ∀ x, x < 7 * c → u.A 179 x = t.A 179 x
def yRd (run : yT → Prop) (t : yT) (n : Nat) (B : Nat → Nat) (c : Nat) (r : yPg) : Prop := match r with
  | .inr (q', (c', T')) => ∃ u m', run u ∧ (yMc u n B m' c' ∧ (ysk n B m' = q' ∧ (yGm u c c' T' ∧ yKd t u c)))
  | .inl (e, a) => ∃ u, run u ∧ (yEr u e a ∧ yKde t u)
section
variable {t u v : yT} {n : Nat} {B : Nat → Nat} {m m' c c' : Nat}
theorem yKde_tr (h : yKde t u) (h' : yKde u v) : yKde t v := ⟨fun j a b d e f => by rw [h'.1 j a b d e f, h.1 j a b d e f], h.2.trans h'.2 (fun a h => h.elim id id)⟩
theorem yKd_tr (h : yKd t u c) (h' : yKd u v c') (hc : c ≤ c') : yKd t v c := ⟨yKde_tr h.1 h'.1, fun x hx => by rw [h'.2 x (by omega), h.2 x hx]⟩
theorem yKde_e (F : yFe t u) (hj : ∀ j, j ≠ 4 → j ≠ 5 → j ≠ 6 → j ≠ 17 → u.A 160 j = t.A 160 j) : yKde t u := ⟨fun j a b d e _ => hj j a b d e, F.1.mono (fun a h => Or.inl h)⟩
theorem yKd_e (F : yFe t u) (hj : ∀ j, j ≠ 4 → j ≠ 5 → j ≠ 6 → j ≠ 17 → u.A 160 j = t.A 160 j) : yKd t u c := ⟨yKde_e F hj, fun x _ => by rw [F.A (by decide)]⟩
theorem yKde_9 {x : Nat} {w : Int32} : yKde t (t.s1 179 x w) := ⟨fun j _ _ _ _ _ => by rw [ys1_ne (by decide)], yFr_s1 (Or.inr rfl)⟩
theorem yKd_9 {x : Nat} {w : Int32} (h : 7 * c ≤ x) : yKd t (t.s1 179 x w) c := ⟨yKde_9, fun y hy => by rw [ys1_upd, yupd_ne (by omega)]⟩
theorem yKde_23 {w : Int32} : yKde t (t.s1 160 23 w) := ⟨fun j _ _ _ _ h => by rw [ys1_upd, yupd_ne h], yFr_s1 (Or.inl rfl)⟩
theorem yKd_23 {w : Int32} : yKd t (t.s1 160 23 w) c := ⟨yKde_23, fun y _ => by rw [ys1_ne (by decide)]⟩
theorem yKd_rfl : yKd t t c := ⟨⟨fun _ _ _ _ _ _ => rfl, yFr.rfl'⟩, fun _ _ => rfl⟩
theorem yMc_e (M : yMc t n B m c) (hm : m' ≤ n) (h4 : u.A 160 4 = yI m') (hj : ∀ j, j ≠ 4 → j ≠ 17 → u.A 160 j = t.A 160 j) (F : yFe t u) : yMc u n B m' c ∧ yKd t u c' := by
  obtain ⟨Y, -, -, ⟨h5, h6⟩, h23⟩ := M
  exact ⟨⟨yYt_fr Y (hj 3 (by decide) (by decide)) F, hm, h4, ⟨by rw [hj 5 (by decide) (by decide)]; exact h5, by rw [hj 6 (by decide) (by decide)]; exact h6⟩, by rw [hj 23 (by decide) (by decide)]; exact h23⟩, yKd_e F (fun j a _ _ b => hj j a b)⟩
/-- a cell of the script -/
theorem yMc_9 (M : yMc t n B m c) {x : Nat} {w : Int32} : yMc (t.s1 179 x w) n B m c := by
  obtain ⟨Y, h1, h2, ⟨h3, h4⟩, h5⟩ := M
  refine ⟨⟨Y.1, ?_, fun i hi => ?_⟩, h1, ?_, ⟨?_, ?_⟩, ?_⟩
  · rw [ys1_ne (by decide)]; exact Y.2.1
  · rw [ys1_ne (by decide)]; exact Y.2.2 i hi
  · rw [ys1_ne (by decide)]; exact h2
  · rw [ys1_ne (by decide)]; exact h3
  · rw [ys1_ne (by decide)]; exact h4
  · rw [ys1_ne (by decide)]; exact h5
theorem yMc_23 (M : yMc t n B m c) : yMc (t.s1 160 23 (yI c')) n B m c' := by
  obtain ⟨Y, h1, h2, ⟨h3, h4⟩, h5⟩ := M
  refine ⟨yYt_4 Y (by decide), h1, ?_, ⟨?_, ?_⟩, ys1_same⟩
  · rw [ys1_upd, yupd_ne (by decide)]; exact h2
  · rw [ys1_upd, yupd_ne (by decide)]; exact h3
  · rw [ys1_upd, yupd_ne (by decide)]; exact h4
end
section
variable {d : Nat} {t : yT} {n : Nat} {B : Nat → Nat} {m c c0 : Nat}
abbrev yBd (D : Nat) (dep : Nat) (n : Nat) (B : Nat → Nat) (blk : Nat → Nat → yTb → yPg) : Prop := ∀ (t : yT) (m c : Nat) (T : yTb), yMc t n B m c → c ≤ 60 → yRd (fun u => Ra D 153 [.ref 160, .int (yI dep)] (yemb t) (.inl none) (yemb u)) t n B c (blk (ysk n B m) c T)
end

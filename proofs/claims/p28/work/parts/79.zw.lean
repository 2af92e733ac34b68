/-! ===== what is written is read: scripts ===== -/
/-- a block of commands (or one), what it leaves in the tables -/
def pBk (deep j : Nat) (w : List Nat) (cnt : Nat) (Q : yTb → Nat → Prop) : Prop :=
  (j ≤ w.length ∧ (w = [] ∨ (1 ≤ w.length ∧ pbt w 0 ≠ 32))) ∧ ((∀ T T' c, yagr c (c + cnt) T T' → Q T c → Q T' c) ∧ ∀ n B k ins m q c T, deep ≤ k → pAt B q w → q + w.length ≤ n → (q + w.length = n ∨ B (q + w.length) ≠ 32) → c + cnt ≤ 60 → ∃ T', ycms n B (ycmK n B k) ins (m + j) q c T = ycms n B (ycmK n B k) ins m (q + w.length) (c + cnt) T' ∧ (yagr 0 c T T' ∧ Q T' c))
theorem pBk_nil {deep : Nat} : pBk deep 0 [] 0 (fun _ _ => True) :=
  ⟨⟨Nat.le_refl _, Or.inl rfl⟩, fun _ _ _ _ h => h, fun n B k ins m q c T _ _ _ _ _ => ⟨T, rfl, fun _ _ _ => ⟨rfl, rfl, rfl⟩, True.intro⟩⟩
theorem pBk_imp {deep j cnt : Nat} {w : List Nat} {Q Q' : yTb → Nat → Prop} (h : pBk deep j w cnt Q) (hi : ∀ T c, Q T c → Q' T c) (hs : ∀ T T' c, yagr c (c + cnt) T T' → Q' T c → Q' T' c) : pBk deep j w cnt Q' := by
  obtain ⟨h1, -, h2⟩ := h
  refine ⟨h1, hs, fun n B k ins m q c T a1 a2 a3 a4 a5 => ?_⟩
  obtain ⟨T', b1, b2, b3⟩ := h2 n B k ins m q c T a1 a2 a3 a4 a5
  exact ⟨T', b1, b2, hi _ _ b3⟩
theorem pBk_app {deep j j' cnt cnt' : Nat} {w w' : List Nat} {Q Q' : yTb → Nat → Prop} (h : pBk deep j w cnt Q) (h' : pBk deep j' w' cnt' Q') (hw : 1 ≤ w'.length) : pBk deep (j + j') (w ++ w') (cnt + cnt') (fun T c => Q T c ∧ Q' T (c + cnt)) := by
  obtain ⟨⟨h1, h2⟩, h3, h4⟩ := h
  obtain ⟨⟨k1, k2⟩, k3, k4⟩ := h'
  have k0 : pbt w' 0 ≠ 32 := by
    rcases k2 with k2 | k2
    · rw [k2] at hw
      exact absurd hw (by decide)
    · exact k2.2
  have hl : (w ++ w').length = w.length + w'.length := List.length_append
  refine ⟨⟨by omega, Or.inr ⟨by omega, ?_⟩⟩, fun T T' c a q => ⟨h3 _ _ _ (fun i g1 g2 => a i g1 (by omega)) q.1, k3 _ _ _ (fun i g1 g2 => a i (by omega) (by omega)) q.2⟩, fun n B k ins m q c T a1 a2 a3 a4 a5 => ?_⟩
  · rw [pbt_cat]
    split
    · rename_i g
      rcases h2 with h2 | h2
      · rw [h2] at g
        exact absurd g (by decide)
      · exact h2.2
    · rename_i g
      rw [show 0 - w.length = 0 by omega]
      exact k0
  · obtain ⟨a6, a7⟩ := pAt_cat.mp a2
    rw [hl] at a3 a4 ⊢
    have b0 : B (q + w.length) ≠ 32 := by
      have := a7 0 (by omega)
      rw [Nat.add_zero] at this
      rw [this]
      exact k0
    obtain ⟨T1, b1, b2, b3⟩ := h4 n B k ins (m + j') q c T a1 a6 (by omega) (Or.inr b0) (by omega)
    obtain ⟨T2, c1, c2, c3⟩ := k4 n B k ins m (q + w.length) (c + cnt) T1 a1 a7 (by omega) (by rw [Nat.add_assoc]; exact a4) (by omega)
    refine ⟨T2, ?_, yagr_tr b2 (fun i g1 g2 => c2 i g1 (by omega)), h3 _ _ _ (fun i g1 g2 => c2 i (by omega) g2) b3, c3⟩
    rw [show m + (j + j') = m + j' + j by omega, b1, c1, Nat.add_assoc q, Nat.add_assoc c]
section
variable {n : Nat} {B : Nat → Nat} {q : Nat}
theorem pykh {kd : Nat} (hk : kd < 6) (h : ∀ j, j < 14 → yisw n B q j = decide (j = ykw kd)) : ykh n B q = kd := by
  unfold ykh
  rw [h 6 (by decide), h 9 (by decide), h 7 (by decide), h 10 (by decide), h 2 (by decide), h 8 (by decide)]
  clear h
  have all : ∀ k, k < 6 → (if decide (6 = ykw k) = true then 0 else if decide (9 = ykw k) = true then 1 else if decide (7 = ykw k) = true then 2 else if decide (10 = ykw k) = true then 3 else if decide (2 = ykw k) = true then 4 else if decide (8 = ykw k) = true then 5 else 6) = k := by decide
  exact all kd hk
theorem pnm_hd {v : Nat → Nat} {e : Nat} (he : e ≠ 32 ∧ ydg e = false) : ∀ m j, ∃ c u, pnm v j m ++ [e] = c :: u ∧ ydg c = false := by
  intro m j
  cases m with
  | zero => exact ⟨e, [], rfl, he.2⟩
  | succ m => exact ⟨32, _, rfl, rfl⟩
theorem pAt_hd {w u : List Nat} {c : Nat} (h : pAt B q (w ++ c :: u)) : pAt B q (w ++ [c]) := pAt_pre h
/-- numbers are read -/
theorem pyrn {v : Nat → Nat} {lo hi e : Nat} (he : e ≠ 32 ∧ ydg e = false) : ∀ m j q r, pAt B q (pnm v j m ++ [e]) → q + (pnm v j m).length < n → (∀ i, j ≤ i → i < j + m → v i < 10000 ∧ (lo ≤ v i ∧ v i ≤ hi)) → ∃ r', yrn n B lo hi m j (ysk n B q) r = .inr (q + (pnm v j m).length, r') ∧ ((∀ i, j ≤ i → i < j + m → r' i = v i) ∧ ∀ i, i < j → r' i = r i) := by
  intro m
  induction m with
  | zero =>
    intro j q r h hn _
    have b : B q = e := pAt_one.mp h
    refine ⟨r, ?_, fun i g1 g2 => by omega, fun _ _ => rfl⟩
    rw [yrn, ysk_no (by omega) (Or.inr (by rw [b]; exact he.1))]
    rfl
  | succ m ih =>
    intro j q r h hn hv
    have hj := hv j (Nat.le_refl _) (by omega)
    have e1 : pnm v j (m + 1) ++ [e] = 32 :: (pdec (v j) ++ (pnm v (j + 1) m ++ [e])) := by
      rw [pnm, ← List.append_assoc]
      rfl
    have e2 : (pnm v j (m + 1)).length = 1 + (pdec (v j)).length + (pnm v (j + 1) m).length := by
      rw [pnm, List.length_cons, List.length_append]
      omega
    rw [e1] at h
    rw [e2] at hn
    obtain ⟨c, u, e3, e4⟩ := pnm_hd (v := v) he m (j + 1)
    have h' := h
    rw [e3] at h'
    obtain ⟨⟨n1, n2⟩, n3, n4, n5⟩ := pN1 (n := n) hj.1 (pAt_pre1 h') e4 (by omega)
    obtain ⟨r', k1, k2, k3⟩ := ih (j + 1) (q + 1 + (pdec (v j)).length) (yup r j (v j)) (pAt_post h) (by omega) (fun i g1 g2 => hv i (by omega) (by omega))
    refine ⟨r', ?_, fun i g1 g2 => ?_, fun i g1 => ?_⟩
    · rw [yrn, n1, n3, if_pos (decide_eq_true hj.2), n5, n4, k1, e2, show q + 1 + (pdec (v j)).length + (pnm v (j + 1) m).length = q + (1 + (pdec (v j)).length + (pnm v (j + 1) m).length) by omega]
    · by_cases hij : i = j
      · subst hij
        rw [k3 i (by omega)]
        exact yup_same
      · exact k2 i (by omega) (by omega)
    · rw [k3 i (by omega)]
      exact yup_ne (by omega)
/-- the word and the numbers of a command -/
theorem pyhd {v : Nat → Nat} {kd e : Nat} {u : List Nat} (hk : kd < 6) (he : e ≠ 32 ∧ (ydg e = false ∧ yle e = false)) (h : pAt B q (ptw (ykw kd) ++ (pnm v 0 (ynb kd) ++ e :: u))) (hn : q + ywl (ykw kd) + (pnm v 0 (ynb kd)).length < n) (hv : ∀ i, i < ynb kd → v i < 10000 ∧ (ynlo kd ≤ v i ∧ v i ≤ ynhi kd)) {r : Nat → Nat} : ykh n B q = kd ∧ ((q < n ∧ B q ≠ 41) ∧ ∃ r', yrn n B (ynlo kd) (ynhi kd) (ynb kd) 0 (ysk n B (q + ywl (ykw kd))) r = .inr (q + ywl (ykw kd) + (pnm v 0 (ynb kd)).length, r') ∧ ∀ i, i < ynb kd → r' i = v i) := by
  have hw14 : ykw kd < 14 := (by decide : ∀ k, k < 6 → ykw k < 14) kd hk
  obtain ⟨h1, h2⟩ := pAt_cat.mp h
  rw [ptw_len] at h2
  obtain ⟨⟨c1, c2⟩, c3⟩ := yw_ok (ykw kd) hw14
  have b0 : B q = ywc (ykw kd) 0 := by
    have := h1 0 (by rw [ptw_len]; omega)
    rw [ptw_bt (by omega)] at this
    exact this
  have hc := (c3 0 (by omega)).1
  have hend : pEnd n B (q + ywl (ykw kd)) := by
    refine Or.inr ?_
    cases hm : ynb kd with
    | zero =>
      rw [hm] at h2
      have := (pAt_cons.mp h2).1
      rw [this]
      exact he.2
    | succ m =>
      rw [hm] at h2
      have := (pAt_cons.mp h2).1
      rw [this]
      exact ⟨rfl, rfl⟩
  obtain ⟨w1, w2⟩ := pword_yes (n := n) hw14 h1 (by omega) hend
  obtain ⟨r', k1, k2, k3⟩ := pyrn (n := n) (B := B) (v := v) (lo := ynlo kd) (hi := ynhi kd) ⟨he.1, he.2.1⟩ (ynb kd) 0 (q + ywl (ykw kd)) r (pAt_pre h2) (by omega) (fun i _ g => hv i (by omega))
  exact ⟨pykh hk w1, ⟨by omega, by omega⟩, r', k1, fun i hi => k2 i (Nat.zero_le _) (by omega)⟩
end

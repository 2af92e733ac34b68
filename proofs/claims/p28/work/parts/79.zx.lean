/-! ===== what is written is read: a command; a repeat; a script ===== -/
theorem pmK (n : Nat) (B : Nat → Nat) : ∀ k, ∃ blk al, ycmK n B k = ycmd n B blk al ∧ ∀ k', k = k' + 1 → al = true ∧ blk = ycms n B (ycmK n B k') true n := by
  intro k
  cases k with
  | zero => exact ⟨_, _, rfl, fun k' h => by omega⟩
  | succ k =>
    refine ⟨_, _, rfl, fun k' h => ?_⟩
    have e : k = k' := by omega
    subst e
    exact ⟨rfl, rfl⟩
/-- a command that does not repeat -/
theorem pBk_cmd {deep kd : Nat} {v : Nat → Nat} (hk : kd < 5) (hv : ∀ i, i < ynb kd → v i < 10000) : pBk deep 1 (ptw (ykw kd) ++ (pnm v 0 (ynb kd) ++ [59])) 1 (fun T c => T.1 c = kd ∧ (T.2.2 c = c + 1 ∧ ∀ j, j < ynb kd → T.2.1 c j = v j)) := by
  have hw14 : ykw kd < 14 := (by decide : ∀ k, k < 5 → ykw k < 14) kd hk
  have hl : (ptw (ykw kd) ++ (pnm v 0 (ynb kd) ++ [59])).length = ywl (ykw kd) + (pnm v 0 (ynb kd)).length + 1 := by
    simp only [List.length_append, List.length_cons, List.length_nil, ptw_len]
    omega
  refine ⟨⟨by omega, Or.inr ⟨by omega, (pbt_w0 hw14).1⟩⟩, fun T T' c a ⟨q1, q2, q3⟩ => ?_, fun n B k ins m q c T _ h hn he hc => ?_⟩
  · obtain ⟨a1, a2, a3⟩ := a c (Nat.le_refl _) (by omega)
    exact ⟨a1.trans q1, a3.trans q2, fun j hj => by rw [a2]; exact q3 j hj⟩
  · rw [hl] at hn he ⊢
    obtain ⟨k1, ⟨k2, k3⟩, r', k4, k5⟩ := pyhd (n := n) (r := T.2.1 c) (kd := kd) (by omega) (by decide) h (by omega) (fun i hi => ⟨hv i hi, by unfold ynlo; rw [if_neg (by omega)]; exact Nat.zero_le _, by unfold ynhi; rw [if_neg (by omega)]; have := hv i hi; omega⟩)
    obtain ⟨blk, al, e1, -⟩ := pmK n B k
    obtain ⟨h1, h2⟩ := pAt_cat.mp h
    obtain ⟨h3, h4⟩ := pAt_cat.mp h2
    rw [ptw_len] at h4
    have b9 := pAt_one.mp h4
    have e2 : ycmK n B k q c T = .inr (q + ywl (ykw kd) + (pnm v 0 (ynb kd)).length, (c + 1, yTe (yTk1 T c kd r') c (c + 1))) := by
      rw [e1]
      unfold ycmd
      rw [k1, if_neg (by omega), if_neg (by omega), if_neg (fun g => by omega)]
      unfold ycmd1
      rw [k4]
      show (if kd = 5 then _ else _) = _
      rw [if_neg (by omega)]
    refine ⟨yTe (yTk1 T c kd r') c (c + 1), ?_, fun i _ g => ⟨yup_ne (by omega), if_neg (by omega), yup_ne (by omega)⟩, yup_same, yup_same, fun j hj => ?_⟩
    · rw [ycms, if_neg (fun g => by
        rcases g with g | ⟨-, g⟩
        · omega
        · rw [pyat_no k3] at g
          cases g), e2]
      show (if yat n B (q + ywl (ykw kd) + (pnm v 0 (ynb kd)).length) 59 = true then _ else _) = _
      have e9 : q + (ywl (ykw kd) + (pnm v 0 (ynb kd)).length + 1) = q + ywl (ykw kd) + (pnm v 0 (ynb kd)).length + 1 := by omega
      rw [e9] at hn he ⊢
      rw [if_pos (pyat (by omega) b9), ysk_no hn he]
    · show (if c = c then r' else T.2.1 c) j = _
      rw [if_pos rfl]
      exact k5 j hj
/-- a repeat -/
theorem pBk_rep {deep j cnt : Nat} {w : List Nat} {Q : yTb → Nat → Prop} {v : Nat → Nat} (h : pBk deep j w cnt Q) (h1 : 1 ≤ v 0 ∧ v 0 ≤ 20) : pBk (deep + 1) 1 (ptw 8 ++ (pnm v 0 1 ++ (40 :: (w ++ [41, 59])))) (1 + cnt) (fun T c => T.1 c = 5 ∧ (T.2.1 c 0 = v 0 ∧ (T.2.2 c = c + (1 + cnt) ∧ Q T (c + 1)))) := by
  obtain ⟨⟨hj, hw⟩, hs, hr⟩ := h
  have hl : (ptw 8 ++ (pnm v 0 1 ++ (40 :: (w ++ [41, 59])))).length = ywl 8 + (pnm v 0 1).length + 1 + w.length + 2 := by
    simp only [List.length_append, List.length_cons, List.length_nil, ptw_len]
    omega
  refine ⟨⟨by omega, Or.inr ⟨by omega, (pbt_w0 (by decide)).1⟩⟩, fun T T' c a ⟨q1, q2, q3, q4⟩ => ?_, fun n B k ins m q c T hd h hn he hc => ?_⟩
  · obtain ⟨a1, a2, a3⟩ := a c (Nat.le_refl _) (by omega)
    exact ⟨a1.trans q1, by rw [a2]; exact q2, a3.trans q3, hs _ _ _ (fun i g1 g2 => a i (by omega) (by omega)) q4⟩
  · rw [hl] at hn he ⊢
    have e8 : ykw 5 = 8 := rfl
    have e1' : ynb 5 = 1 := rfl
    obtain ⟨k1, ⟨k2, k3⟩, r', k4, k5⟩ := pyhd (n := n) (r := T.2.1 c) (kd := 5) (v := v) (by decide) (show 40 ≠ 32 ∧ (ydg 40 = false ∧ yle 40 = false) by decide) h (by rw [e8, e1']; omega) (fun i hi => by
      have e : i = 0 := by omega
      subst e
      exact ⟨by omega, h1⟩)
    rw [e8, e1'] at k4
    rw [e1'] at k5
    have k0 := k5 0 (by decide)
    obtain ⟨k', rfl⟩ : ∃ k', k = k' + 1 := ⟨k - 1, by omega⟩
    obtain ⟨blk, al, e1, e2⟩ := pmK n B (k' + 1)
    obtain ⟨rfl, rfl⟩ := e2 k' rfl
    obtain ⟨h2, h3⟩ := pAt_cat.mp h
    obtain ⟨h4, h5⟩ := pAt_cat.mp h3
    rw [ptw_len] at h5
    obtain ⟨b5, h6⟩ := pAt_cons.mp h5
    obtain ⟨h7, h8⟩ := pAt_cat.mp h6
    obtain ⟨b8, h9⟩ := pAt_cons.mp h8
    have b9 := pAt_one.mp h9
    obtain ⟨p, hp⟩ : ∃ p, p = q + ywl 8 + (pnm v 0 1).length := ⟨_, rfl⟩
    rw [← hp] at b5 h6 h7 h8 b8 h9 b9 k4
    have e9 : q + (ywl 8 + (pnm v 0 1).length + 1 + w.length + 2) = p + 1 + w.length + 1 + 1 := by omega
    rw [e9] at hn he ⊢
    have bw : B (p + 1) ≠ 32 := by
      rcases hw with hw | hw
      · subst hw
        rw [show p + 1 = p + 1 + ([] : List Nat).length from rfl, b8]
        decide
      · have := h7 0 (by omega)
        rw [Nat.add_zero] at this
        rw [this]
        exact hw.2
    obtain ⟨M, hM⟩ : ∃ M, n = M + j := ⟨n - j, by omega⟩
    obtain ⟨T2, c1, c2, c3⟩ := hr n B k' true M (p + 1) (c + 1) (yTk1 T c 5 r') (by omega) h7 (by omega) (Or.inr (by rw [b8]; decide)) (by omega)
    rw [← hM] at c1
    have c4 : ycms n B (ycmK n B k') true M (p + 1 + w.length) (c + 1 + cnt) T2 = .inr (p + 1 + w.length, (c + 1 + cnt, T2)) := by
      cases M with
      | zero => rfl
      | succ M => rw [ycms, if_pos (Or.inr ⟨rfl, pyat (by omega) b8⟩)]
    obtain ⟨d1, d2, d3⟩ := c2 c (Nat.zero_le _) (by omega)
    have e2 : ycmK n B (k' + 1) q c T = .inr (p + 1 + w.length + 1, (c + (1 + cnt), yTe T2 c (c + (1 + cnt)))) := by
      rw [e1]
      unfold ycmd
      rw [k1, if_neg (by omega), if_neg (by omega), if_neg (fun g => by cases g.2), e8]
      unfold ycmd1
      rw [e1', k4]
      show yrep n B (ycms n B (ycmK n B k') true n) p c (yTk1 T c 5 r') = _
      unfold yrep
      rw [if_pos (pyat (by omega) b5), ysk_no (by omega) (Or.inr bw), c1, c4]
      show (if yat n B (p + 1 + w.length) 41 = true then _ else _) = _
      rw [if_pos (pyat (by omega) b8), ysk_no (by omega) (Or.inr (by rw [b9]; decide)), Nat.add_assoc c]
    refine ⟨yTe T2 c (c + (1 + cnt)), ?_, fun i _ g => ?_, ?_, ?_, yup_same, hs T2 _ _ (fun i g1 g2 => ⟨rfl, rfl, yup_ne (by omega)⟩) c3⟩
    · rw [ycms, if_neg (fun g => by
        rcases g with g | ⟨-, g⟩
        · omega
        · rw [pyat_no k3] at g
          cases g), e2]
      show (if yat n B (p + 1 + w.length + 1) 59 = true then _ else _) = _
      rw [if_pos (pyat (by omega) b9), ysk_no hn he]
    · obtain ⟨f1, f2, f3⟩ := c2 i (Nat.zero_le _) (by omega)
      exact ⟨f1.trans (yup_ne (by omega)), f2.trans (if_neg (by omega)), (yup_ne (by omega)).trans f3⟩
    · exact d1.trans yup_same
    · have g1 : T2.2.1 c = r' := d2.trans (if_pos rfl)
      show T2.2.1 c 0 = _
      rw [g1, k0]
/-- a whole script -/
theorem pBk_run {deep j cnt : Nat} {w : List Nat} {Q : yTb → Nat → Prop} (h : pBk deep j w cnt Q) (hd : deep ≤ 3) (hc : cnt ≤ 60) : ∃ T, yrun w.length (pbt w) = .inr (w.length, (cnt, T)) ∧ Q T 0 := by
  obtain ⟨⟨hj, hw⟩, -, hr⟩ := h
  have k0 : ysk w.length (pbt w) 0 = 0 := ysk_no (Nat.zero_le _) (by
    rcases hw with hw | hw
    · exact Or.inl (by rw [hw]; rfl)
    · exact Or.inr hw.2)
  obtain ⟨M, hM⟩ : ∃ M, w.length = M + j := ⟨w.length - j, by omega⟩
  obtain ⟨T, c1, -, c3⟩ := hr w.length (pbt w) 3 false M 0 0 yT0 hd (fun i hi => by rw [Nat.zero_add]) (by omega) (Or.inl (by omega)) (by omega)
  rw [← hM, Nat.zero_add, Nat.zero_add] at c1
  refine ⟨T, ?_, c3⟩
  unfold yrun
  rw [k0, c1]
  cases M with
  | zero => rfl
  | succ M => rw [ycms, if_pos (Or.inl (Nat.le_refl _))]
/-! ===== rows of commands: kept, and one more ===== -/
section
variable {h h' : Nat} {σ τ : xS} {T T' : yTb}
theorem pCr_mono {W W' : Nat → Nat → Nat → Prop} {g g' : Nat → Option Nat} (hh : h' ≤ h) (hσ : ∀ a e, h ≤ a → a < 1000000 → σ.1 a = some e → τ.1 a = some e) : ∀ m k lo hi, (∀ j, k ≤ j → j < k + m → g' j = g j) → yagr lo hi T T' → (∀ r a b, lo ≤ a → b ≤ hi → W r a b → W' r a b) → pCr W σ T h g m k lo hi → pCr W' τ T' h' g' m k lo hi := by
  intro m
  induction m with
  | zero => intro k lo hi _ _ _ q; exact q
  | succ m ih =>
    intro k lo hi hg A HW q
    have hle := pCr_le _ _ _ _ q
    obtain ⟨l1, l2⟩ := hle
    obtain ⟨l3, l4⟩ := l2 (Nat.succ_pos _)
    obtain ⟨⟨a, nr, ins, c, q1, ⟨p1, p2, p3, p4, p5⟩, q3⟩, q4⟩ := q
    obtain ⟨a1, a2, a3⟩ := A lo (Nat.le_refl _) (by omega)
    refine ⟨⟨a, nr, ins, c, by rw [hg k (Nat.le_refl _) (by omega)]; exact q1, ⟨⟨by omega, p1.2⟩, ?_, ⟨by omega, p3.2⟩, hσ _ _ p3.1 p3.2 p4, ?_⟩, ?_⟩, ?_⟩
    · rw [a1]
      exact hσ _ _ p1.1 p1.2 p2
    · rw [a1, a2]
      exact p5
    · rw [a1, a2, a3]
      rcases q3 with q3 | ⟨q5, q6, q7, r, q8, q9⟩
      · exact Or.inl q3
      · exact Or.inr ⟨q5, q6, q7, r, q8, HW _ _ _ (by omega) l4 q9⟩
    · rw [a3]
      exact ih _ _ _ (fun j g1 g2 => hg j (by omega) (by omega)) (fun i g1 g2 => A i (by omega) g2) (fun r a b g1 g2 q => HW r a b (by omega) g2 q) q4
theorem pCw_mono (hh : h' ≤ h) (hσ : ∀ a e, h ≤ a → a < 1000000 → σ.1 a = some e → τ.1 a = some e) : ∀ k r lo hi, yagr lo hi T T' → pCw σ T h k r lo hi → pCw τ T' h' k r lo hi := by
  intro k
  induction k with
  | zero =>
    intro r lo hi A ⟨q1, n, g, q2, q3, q4⟩
    exact ⟨⟨by omega, q1.2⟩, n, g, q2, hσ _ _ q1.1 q1.2 q3, pCr_mono hh hσ _ _ _ _ (fun _ _ _ => rfl) A (fun _ _ _ _ _ q => q) q4⟩
  | succ k ih =>
    intro r lo hi A ⟨q1, n, g, q2, q3, q4⟩
    exact ⟨⟨by omega, q1.2⟩, n, g, q2, hσ _ _ q1.1 q1.2 q3, pCr_mono hh hσ _ _ _ _ (fun _ _ _ => rfl) A (fun r a b g1 g2 q => ih r a b (fun i g3 g4 => A i (by omega) (by omega)) q) q4⟩
/-- what may stand in a row of commands -/
abbrev pCi (W : Nat → Nat → Nat → Prop) (T : yTb) (ins : Value) (lo : Nat) : Prop := (T.1 lo < 5 ∧ (T.2.2 lo = lo + 1 ∧ ∀ j, j < ynb (T.1 lo) → T.2.1 lo j < 10000)) ∨ (T.1 lo = 5 ∧ (T.2.1 lo 0 ≤ 20 ∧ (lo < T.2.2 lo ∧ ∃ r, ins = .ref r ∧ W r (lo + 1) (T.2.2 lo))))
theorem pCr_snoc {W : Nat → Nat → Nat → Prop} {g : Nat → Option Nat} {a nr : Nat} {ins : Value} {c : Nat → Int32} : ∀ m k lo mid, pCr W σ T h g m k lo mid → g (k + m) = some a → pK σ T h a mid nr ins c → pCi W T ins mid → pCr W σ T h g (m + 1) k lo (T.2.2 mid) := by
  intro m
  induction m with
  | zero =>
    intro k lo mid q h1 h2 h3
    have e : lo = mid := q
    subst e
    exact ⟨⟨a, nr, ins, c, h1, h2, h3⟩, rfl⟩
  | succ m ih =>
    intro k lo mid q h1 h2 h3
    obtain ⟨q1, q2⟩ := q
    refine ⟨q1, ih _ _ _ q2 ?_ h2 h3⟩
    rw [show k + 1 + m = k + (m + 1) by omega]
    exact h1
end

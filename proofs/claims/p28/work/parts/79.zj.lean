/-! ===== what is written is read: curves ===== -/
/-- w at q is read as the items l -/
abbrev pFA (n : Nat) (B : Nat → Nat) (m : Nat) (w : List Nat) (l : List Int32) : Prop := ∀ q acc, pAt B q w → q + w.length ≤ n → pEnd n B (q + w.length) → yfac n B m q acc = .inr (ysk n B (q + w.length), acc ++ l)
abbrev pFB (n : Nat) (B : Nat → Nat) (m : Nat) (w : List Nat) (l : List Int32) : Prop := ∀ q acc, pAt B q w → q + w.length ≤ n → pEnd n B (q + w.length) → ∃ j, j + 1 ≤ w.length ∧ ytm' n B (yfac n B m) q acc = ytl n B (yfac n B m) (n - j) (ysk n B (q + w.length)) (acc ++ l)
abbrev pFC (n : Nat) (B : Nat → Nat) (m : Nat) (w : List Nat) (l : List Int32) : Prop := ∀ q acc, pAt B q w → q + w.length ≤ n → pEnd n B (q + w.length) → ymul n B (ysk n B (q + w.length)) = false → ∃ j, j + 1 ≤ w.length ∧ ysu n B (yfac n B m) q acc = ysl n B (yfac n B m) (n - j) (ysk n B (q + w.length)) (acc ++ l)
section
variable {n : Nat} {B : Nat → Nat} {m : Nat} {w : List Nat} {l : List Int32}
theorem pFA.b (h : pFA n B m w l) (hw : 1 ≤ w.length) : pFB n B m w l := fun q acc h1 h2 h3 => by
  refine ⟨0, by omega, ?_⟩
  unfold ytm'
  rw [h q acc h1 h2 h3]
  rfl
theorem ytl_out {fac : Nat → List Int32 → yPs} {M q : Nat} {acc : List Int32} (h : ymul n B q = false) : ytl n B fac M q acc = .inr (q, acc) := by
  cases M with
  | zero => rfl
  | succ M => rw [ytl, if_neg (by rw [h]; decide)]
theorem ysl_out {fac : Nat → List Int32 → yPs} {M q : Nat} {acc : List Int32} (h : yadd n B q = false) : ysl n B fac M q acc = .inr (q, acc) := by
  cases M with
  | zero => rfl
  | succ M => rw [ysl, if_neg (by rw [h]; decide)]
theorem pFB.c (h : pFB n B m w l) : pFC n B m w l := fun q acc h1 h2 h3 h4 => by
  obtain ⟨j, hj, e⟩ := h q acc h1 h2 h3
  refine ⟨0, by omega, ?_⟩
  unfold ysu
  rw [e, ytl_out h4]
  rfl
theorem pdec_0 {v : Nat} (hv : v < 10000) : ∃ b r, pdec v = b :: r ∧ (48 ≤ b ∧ b ≤ 57) := by
  unfold pdec
  cases h : pdn v with
  | zero => exact ⟨_, _, rfl, by omega⟩
  | succ k => exact ⟨_, _, rfl, by omega⟩
/-- a number, a variable -/
theorem pleaf_n {v : Nat} (hv : v < 10000) : pFA n B m (pdec v) [yI v] := fun q acc h1 h2 h3 => by
  obtain ⟨⟨a1, a2⟩, ⟨a3, a4⟩, a5⟩ := pnum hv h1 h2 (h3.imp id And.left)
  have n40 : yat n B q 40 = false := pyat_no (fun e => by rw [e] at a4; exact absurd a4 (by decide))
  have e : yfac n B m q acc = yleaf n B q acc := by
    cases m with
    | zero => rw [yfac, if_neg (by rw [n40]; decide)]
    | succ m => rw [yfac, if_neg (by rw [n40]; decide)]
  rw [e]
  unfold yleaf
  rw [if_neg (by rw [pword_no (Or.inl a4) 13 (by decide) (by omega)]; decide), if_neg (by rw [pword_no (Or.inl a4) 7 (by decide) (by omega)]; decide), if_pos (by rw [a5]; exact decide_eq_true (by omega)), a1, a2]
theorem pleaf_w {i : Nat} {c : Int32} (hi : (i = 13 ∧ c = -1) ∨ (i = 7 ∧ c = -2)) : pFA n B m (ptw i) [c] := fun q acc h1 h2 h3 => by
  rw [ptw_len] at h2 h3 ⊢
  have hi14 : i < 14 := by omega
  obtain ⟨a1, -, a3⟩ := pword_yes hi14 h1 h2 h3
  have hB : B q = ywc i 0 := by
    have := (yw_ok i hi14).1.1
    have h := h1 0 (by rw [ptw_len]; omega)
    rw [ptw_bt (by omega)] at h
    exact h
  have n40 : yat n B q 40 = false := pyat_no (fun e => by
    rw [hB] at e
    rcases hi with ⟨rfl, -⟩ | ⟨rfl, -⟩ <;> exact absurd e (by decide))
  have e : yfac n B m q acc = yleaf n B q acc := by
    cases m with
    | zero => rw [yfac, if_neg (by rw [n40]; decide)]
    | succ m => rw [yfac, if_neg (by rw [n40]; decide)]
  rw [e]
  unfold yleaf
  rcases hi with ⟨rfl, rfl⟩ | ⟨rfl, rfl⟩
  · rw [if_pos (by rw [a1 13 (by decide)]; rfl)]
  · rw [if_neg (by rw [a1 13 (by decide)]; decide), if_pos (by rw [a1 7 (by decide)]; rfl)]
end
/-- how a text begins -/
def pst (w : List Nat) : Prop := ∃ b r, w = b :: r ∧ ((48 ≤ b ∧ b ≤ 57) ∨ ((97 ≤ b ∧ b ≤ 122) ∨ b = 40))
theorem pst_cat {w u : List Nat} (h : pst w) : pst (w ++ u) := by
  obtain ⟨b, r, rfl, h⟩ := h
  exact ⟨b, r ++ u, rfl, h⟩
theorem pst_bin {q lev : Nat} {wb wc : List Nat} (h : pst wb) : pst (pbin q lev wb wc) := by
  unfold pbin
  split
  · exact ⟨40, _, rfl, Or.inr (Or.inr rfl)⟩
  · exact pst_cat (pst_cat h)
theorem pNt_st {σ : xS} : ∀ k a lev w l, pNt σ k a lev w l → pst w := by
  intro k
  induction k with
  | zero => intro a lev w l h; exact h.elim
  | succ k ih =>
    intro a lev w l h
    obtain ⟨ha, kd, nm, u, v, hc, h⟩ := h
    rcases h with ⟨-, m, hm, -, -, rfl⟩ | ⟨-, ⟨-, -, rfl⟩ | ⟨-, -, rfl⟩⟩ | ⟨q, -, b, c, lb, lc, wb, wc, -, h3, -, -, rfl⟩
    · obtain ⟨b, r, h1, h2⟩ := pdec_0 hm
      exact ⟨b, r, h1, Or.inl h2⟩
    · exact ⟨120, [], by decide, Or.inr (Or.inl (by decide))⟩
    · exact ⟨108, [101, 118, 101, 108], by decide, Or.inr (Or.inl (by decide))⟩
    · exact pst_bin (ih _ _ _ _ h3)
section
variable {n : Nat} {B : Nat → Nat} {m : Nat} {w : List Nat} {l : List Int32}
theorem pst_at {q : Nat} (h : pst w) (hw : pAt B q w) : (B q ≠ 32 ∧ 1 ≤ w.length) ∧ (B q ≠ 42 ∧ (B q ≠ 47 ∧ (B q ≠ 43 ∧ B q ≠ 45))) := by
  obtain ⟨b, r, rfl, h⟩ := h
  obtain ⟨h1, -⟩ := pAt_cons.mp hw
  rw [h1]
  refine ⟨⟨by omega, by simp⟩, by omega, by omega, by omega, by omega⟩
/-- the sign behind the left side -/
theorem psign {q1 o : Nat} (ho : 2 ≤ o ∧ o ≤ 5) (h : pAt B q1 (ptw (psep o))) (hn : q1 + (ptw (psep o)).length < n) (h0 : B (q1 + (ptw (psep o)).length) ≠ 32) : pEnd n B q1 ∧ (yopc n B (ysk n B q1) = -1 - yI o ∧ (ysk n B (ysk n B q1 + 1) = q1 + (ptw (psep o)).length ∧ ((o < 4 → ymul n B (ysk n B q1) = false ∧ yadd n B (ysk n B q1) = true) ∧ (4 ≤ o → ymul n B (ysk n B q1) = true)))) := by
  rcases (by omega : o = 2 ∨ (o = 3 ∨ (o = 4 ∨ o = 5))) with rfl | rfl | rfl | rfl
  · have e : ptw (psep 2) = [43] := by decide
    rw [e] at h hn h0 ⊢
    have b0 := pAt_one.mp h
    have hn' : q1 + 1 < n := hn
    have h0' : B (q1 + 1) ≠ 32 := h0
    have k0 : ysk n B q1 = q1 := ysk_no (by omega) (Or.inr (by omega))
    have k1 : ysk n B (q1 + 1) = q1 + 1 := ysk_no (by omega) (Or.inr h0')
    have y43 : yat n B q1 43 = true := pyat (by omega) b0
    have y45 : yat n B q1 45 = false := pyat_no (by omega)
    have y42 : yat n B q1 42 = false := pyat_no (by omega)
    have y47 : yat n B q1 47 = false := pyat_no (by omega)
    rw [k0, k1]
    refine ⟨Or.inr ⟨by rw [b0]; rfl, by rw [b0]; rfl⟩, ?_, rfl, fun _ => ⟨?_, ?_⟩, fun g => absurd g (by decide)⟩
    · unfold yopc; rw [y43]; rfl
    · unfold ymul; rw [y42, y47]; rfl
    · unfold yadd; rw [y43]; rfl
  · have e : ptw (psep 3) = [32, 45, 32] := by decide
    rw [e] at h hn h0 ⊢
    obtain ⟨b0, h⟩ := pAt_cons.mp h
    obtain ⟨b1, h⟩ := pAt_cons.mp h
    have b2 := pAt_one.mp h
    have hn' : q1 + 3 < n := hn
    have h0' : B (q1 + 1 + 1 + 1) ≠ 32 := h0
    have k0 : ysk n B q1 = q1 + 1 := ysk_one (by omega) b0 (Or.inr (by omega))
    have k1 : ysk n B (q1 + 1 + 1) = q1 + 1 + 1 + 1 := ysk_one (by omega) b2 (Or.inr h0')
    have y43 : yat n B (q1 + 1) 43 = false := pyat_no (by omega)
    have y45 : yat n B (q1 + 1) 45 = true := pyat (by omega) b1
    have y42 : yat n B (q1 + 1) 42 = false := pyat_no (by omega)
    have y47 : yat n B (q1 + 1) 47 = false := pyat_no (by omega)
    rw [k0, k1]
    refine ⟨Or.inr ⟨by rw [b0]; rfl, by rw [b0]; rfl⟩, ?_, rfl, fun _ => ⟨?_, ?_⟩, fun g => absurd g (by decide)⟩
    · unfold yopc; rw [y43, y45]; rfl
    · unfold ymul; rw [y42, y47]; rfl
    · unfold yadd; rw [y43, y45]; rfl
  · have e : ptw (psep 4) = [42, 32] := by decide
    rw [e] at h hn h0 ⊢
    obtain ⟨b0, h⟩ := pAt_cons.mp h
    have b1 := pAt_one.mp h
    have hn' : q1 + 2 < n := hn
    have h0' : B (q1 + 1 + 1) ≠ 32 := h0
    have k0 : ysk n B q1 = q1 := ysk_no (by omega) (Or.inr (by omega))
    have k1 : ysk n B (q1 + 1) = q1 + 1 + 1 := ysk_one (by omega) b1 (Or.inr h0')
    have y43 : yat n B q1 43 = false := pyat_no (by omega)
    have y45 : yat n B q1 45 = false := pyat_no (by omega)
    have y42 : yat n B q1 42 = true := pyat (by omega) b0
    rw [k0, k1]
    refine ⟨Or.inr ⟨by rw [b0]; rfl, by rw [b0]; rfl⟩, ?_, rfl, fun g => absurd g (by decide), fun _ => ?_⟩
    · unfold yopc; rw [y43, y45, y42]; rfl
    · unfold ymul; rw [y42]; rfl
  · have e : ptw (psep 5) = [47] := by decide
    rw [e] at h hn h0 ⊢
    have b0 := pAt_one.mp h
    have hn' : q1 + 1 < n := hn
    have h0' : B (q1 + 1) ≠ 32 := h0
    have k0 : ysk n B q1 = q1 := ysk_no (by omega) (Or.inr (by omega))
    have k1 : ysk n B (q1 + 1) = q1 + 1 := ysk_no (by omega) (Or.inr h0')
    have y43 : yat n B q1 43 = false := pyat_no (by omega)
    have y45 : yat n B q1 45 = false := pyat_no (by omega)
    have y42 : yat n B q1 42 = false := pyat_no (by omega)
    have y47 : yat n B q1 47 = true := pyat (by omega) b0
    rw [k0, k1]
    refine ⟨Or.inr ⟨by rw [b0]; rfl, by rw [b0]; rfl⟩, ?_, rfl, fun g => absurd g (by decide), fun _ => ?_⟩
    · unfold yopc; rw [y43, y45, y42, y47]; rfl
    · unfold ymul; rw [y42, y47]; rfl
theorem psum {o : Nat} {wb wc : List Nat} {lb lc : List Int32} (ho : 2 ≤ o ∧ o ≤ 5) (h4 : o < 4) (hb : pFC n B m wb lb) (hc : pFB n B m wc lc) (sc : pst wc) : pFC n B m ((wb ++ ptw (psep o)) ++ wc) (lb ++ lc ++ [-1 - yI o]) := fun q acc h1 h2 h3 hx => by
  rw [List.length_append, List.length_append] at h2 h3 hx
  obtain ⟨h5, h6⟩ := pAt_cat.mp h1
  obtain ⟨h7, h8⟩ := pAt_cat.mp h5
  rw [List.length_append, ← Nat.add_assoc] at h6
  obtain ⟨⟨c1, c2⟩, -⟩ := pst_at sc h6
  obtain ⟨s1, s2, s3, s4, -⟩ := psign (n := n) ho h8 (by omega) c1
  obtain ⟨s5, s6⟩ := s4 h4
  obtain ⟨j, hj, e1⟩ := hb q acc h7 (by omega) s1 s5
  rw [← Nat.add_assoc, ← Nat.add_assoc] at h2 h3 hx
  obtain ⟨j2, hj2, e2⟩ := hc (q + wb.length + (ptw (psep o)).length) (acc ++ lb) h6 h2 h3
  have hsl : 1 ≤ (ptw (psep o)).length := by
    rcases (by omega : o = 2 ∨ o = 3) with rfl | rfl <;> decide
  refine ⟨j + 1, by rw [List.length_append, List.length_append]; omega, ?_⟩
  rw [e1]
  obtain ⟨M, hM⟩ : ∃ M, n - j = M + 1 := ⟨n - j - 1, by omega⟩
  have hM' : n - (j + 1) = M := by omega
  rw [hM, hM', ysl, if_pos s6, s3, e2, ytl_out hx, s2, List.length_append, List.length_append, ← Nat.add_assoc, ← Nat.add_assoc]
  show ysl n B (yfac n B m) M _ (acc ++ lb ++ lc ++ [-1 - yI o]) = _
  rw [List.append_assoc, List.append_assoc, List.append_assoc]
theorem pprod {o : Nat} {wb wc : List Nat} {lb lc : List Int32} (ho : 2 ≤ o ∧ o ≤ 5) (h4 : 4 ≤ o) (hb : pFB n B m wb lb) (hc : pFA n B m wc lc) (sc : pst wc) : pFB n B m ((wb ++ ptw (psep o)) ++ wc) (lb ++ lc ++ [-1 - yI o]) := fun q acc h1 h2 h3 => by
  rw [List.length_append, List.length_append] at h2 h3
  obtain ⟨h5, h6⟩ := pAt_cat.mp h1
  obtain ⟨h7, h8⟩ := pAt_cat.mp h5
  rw [List.length_append, ← Nat.add_assoc] at h6
  obtain ⟨⟨c1, c2⟩, -⟩ := pst_at sc h6
  obtain ⟨s1, s2, s3, -, s4⟩ := psign (n := n) ho h8 (by omega) c1
  have s6 := s4 h4
  obtain ⟨j, hj, e1⟩ := hb q acc h7 (by omega) s1
  rw [← Nat.add_assoc, ← Nat.add_assoc] at h2 h3
  have e2 := hc (q + wb.length + (ptw (psep o)).length) (acc ++ lb) h6 h2 h3
  have hsl : 1 ≤ (ptw (psep o)).length := by
    rcases (by omega : o = 4 ∨ o = 5) with rfl | rfl <;> decide
  refine ⟨j + 1, by rw [List.length_append, List.length_append]; omega, ?_⟩
  rw [e1]
  obtain ⟨M, hM⟩ : ∃ M, n - j = M + 1 := ⟨n - j - 1, by omega⟩
  have hM' : n - (j + 1) = M := by omega
  rw [hM, hM', ytl, if_pos s6, s3, e2, s2, List.length_append, List.length_append, ← Nat.add_assoc, ← Nat.add_assoc]
  show ytl n B (yfac n B m) M _ (acc ++ lb ++ lc ++ [-1 - yI o]) = _
  rw [List.append_assoc, List.append_assoc, List.append_assoc]
theorem pparen (h : pFC n B m w l) (hs : pst w) : pFA n B (m + 1) (40 :: w ++ [41]) l := fun q acc h1 h2 h3 => by
  have hl : (40 :: w ++ [41]).length = w.length + 2 := by simp
  rw [hl] at h2 h3 ⊢
  obtain ⟨h4, h5⟩ := pAt_cat.mp h1
  obtain ⟨b0, h6⟩ := pAt_cons.mp h4
  have b9 : B (q + (w.length + 1)) = 41 := pAt_one.mp h5
  obtain ⟨⟨c1, c2⟩, -⟩ := pst_at hs h6
  have e9 : q + 1 + w.length = q + (w.length + 1) := by omega
  have k1 : ysk n B (q + 1) = q + 1 := ysk_no (by omega) (Or.inr c1)
  have k2 : ysk n B (q + (w.length + 1)) = q + (w.length + 1) := ysk_no (by omega) (Or.inr (by omega))
  have y41 : yat n B (q + (w.length + 1)) 41 = true := pyat (by omega) b9
  have n42 : ymul n B (q + (w.length + 1)) = false := by
    unfold ymul
    rw [pyat_no (by omega), pyat_no (by omega)]
    rfl
  have n43 : yadd n B (q + (w.length + 1)) = false := by
    unfold yadd
    rw [pyat_no (by omega), pyat_no (by omega)]
    rfl
  have pe : pEnd n B (q + (w.length + 1)) := Or.inr ⟨by rw [b9]; rfl, by rw [b9]; rfl⟩
  obtain ⟨j, hj, e⟩ := h (q + 1) acc h6 (by omega) (by rw [e9]; exact pe) (by rw [e9, k2]; exact n42)
  rw [e9, k2, ysl_out n43] at e
  rw [yfac, if_pos (pyat (by omega) b0), k1, e]
  show (if yat n B (q + (w.length + 1)) 41 = true then _ else _) = _
  rw [if_pos y41]
  rfl
/-- a curve's text is read -/
theorem pread {σ : xS} : ∀ k a lev w l, pNt σ k a lev w l → ∀ m, k ≤ m → (3 ≤ lev → pFA n B m w l) ∧ ((2 ≤ lev → pFB n B m w l) ∧ pFC n B m w l) := by
  intro k
  induction k with
  | zero => intro a lev w l h; exact h.elim
  | succ k ih =>
    intro a lev w l h m hm
    have hst := pNt_st (k + 1) a lev w l h
    have hw1 : 1 ≤ w.length := by
      obtain ⟨b, r, rfl, -⟩ := hst
      simp
    have fromA : pFA n B m w l → (3 ≤ lev → pFA n B m w l) ∧ ((2 ≤ lev → pFB n B m w l) ∧ pFC n B m w l) := fun h => ⟨fun _ => h, fun _ => h.b hw1, (h.b hw1).c⟩
    obtain ⟨ha, kd, nm, u, v, hc, h⟩ := h
    rcases h with ⟨-, v, hv, -, rfl, rfl⟩ | ⟨-, ⟨-, rfl, rfl⟩ | ⟨-, rfl, rfl⟩⟩ | ⟨o, ⟨ho, rfl⟩, b, c, lb, lc, wb, wc, -, h3, h4, rfl, rfl⟩
    · exact fromA (pleaf_n hv)
    · exact fromA (pleaf_w (Or.inl ⟨rfl, rfl⟩))
    · exact fromA (pleaf_w (Or.inr ⟨rfl, rfl⟩))
    · have sb := pNt_st _ _ _ _ _ h3
      have sc := pNt_st _ _ _ _ _ h4
      have inner : ∀ m', k ≤ m' → (o < 4 → pFC n B m' ((wb ++ ptw (psep o)) ++ wc) (lb ++ lc ++ [-1 - yI o])) ∧ (4 ≤ o → pFB n B m' ((wb ++ ptw (psep o)) ++ wc) (lb ++ lc ++ [-1 - yI o])) := fun m' hm' => by
        have i1 := ih _ _ _ _ h3 m' hm'
        have i2 := ih _ _ _ _ h4 m' hm'
        refine ⟨fun g => psum ho g i1.2.2 (i2.2.1 ?_) sc, fun g => pprod ho g (i1.2.1 ?_) (i2.1 ?_) sc⟩
        · unfold pown; rw [if_pos g]; decide
        · unfold pown; rw [if_neg (by omega)]; decide
        · unfold pown; rw [if_neg (by omega)]; decide
      by_cases hlev : pown o < lev
      · -- in brackets
        obtain ⟨m', rfl⟩ : ∃ m', m = m' + 1 := ⟨m - 1, by omega⟩
        have hC : pFC n B m' ((wb ++ ptw (psep o)) ++ wc) (lb ++ lc ++ [-1 - yI o]) := by
          by_cases g : o < 4
          · exact (inner m' (by omega)).1 g
          · exact ((inner m' (by omega)).2 (by omega)).c
        have e : pbin o lev wb wc = 40 :: ((wb ++ ptw (psep o)) ++ wc) ++ [41] := by unfold pbin; rw [if_pos hlev]
        rw [e] at fromA ⊢
        exact fromA (pparen hC (pst_cat (pst_cat sb)))
      · have e : pbin o lev wb wc = (wb ++ ptw (psep o)) ++ wc := by unfold pbin; rw [if_neg hlev]
        rw [e]
        by_cases g : o < 4
        · have h1 : pown o = 1 := by unfold pown; rw [if_pos g]
          rw [h1] at hlev
          exact ⟨fun q => by omega, fun q => by omega, (inner m (by omega)).1 g⟩
        · have h1 : pown o = 2 := by unfold pown; rw [if_neg g]
          rw [h1] at hlev
          have hB := (inner m (by omega)).2 (by omega)
          exact ⟨fun q => by omega, fun _ => hB, hB.c⟩
/-- the whole curve of a setup: a blank and a semicolon follow -/
theorem pcurve {σ : xS} {k a q : Nat} (h : pNt σ k a 0 w l) (hk : k ≤ 4) (h1 : pAt B q w) (h2 : pAt B (q + w.length) (ptw 18)) (hq : q + w.length + 2 ≤ n) : ysum' n B q = .inr (q + w.length + 1, l) := by
  have e : ptw 18 = [32, 59] := by decide
  rw [e] at h2
  obtain ⟨b0, h3⟩ := pAt_cons.mp h2
  have b1 := pAt_one.mp h3
  have k0 : ysk n B (q + w.length) = q + w.length + 1 := ysk_one (by omega) b0 (Or.inr (by omega))
  have n42 : ymul n B (q + w.length + 1) = false := by
    unfold ymul
    rw [pyat_no (by omega), pyat_no (by omega)]
    rfl
  have n43 : yadd n B (q + w.length + 1) = false := by
    unfold yadd
    rw [pyat_no (by omega), pyat_no (by omega)]
    rfl
  obtain ⟨j, hj, e2⟩ := (pread (n := n) (B := B) k a 0 w l h 4 hk).2.2 q [] h1 (by omega) (Or.inr ⟨by rw [b0]; rfl, by rw [b0]; rfl⟩) (by rw [k0]; exact n42)
  unfold ysum'
  rw [e2, k0, ysl_out n43]
  rfl
end

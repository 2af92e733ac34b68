/-! ===== what is written is read: setups ===== -/
section
variable {n : Nat} {B : Nat → Nat} {q : Nat}
/-- a number behind a blank -/
theorem pN1 {x c : Nat} (hx : x < 10000) (h : pAt B q (32 :: (pdec x ++ [c]))) (hc : ydg c = false) (hq : q + 1 + (pdec x).length < n) : (ysk n B q = q + 1 ∧ B (q + 1 + (pdec x).length) = c) ∧ ((∀ lo hi, ynum n B (q + 1) lo hi = decide (lo ≤ x ∧ x ≤ hi)) ∧ (ynv n B (q + 1) = x ∧ ynq n B (q + 1) = ysk n B (q + 1 + (pdec x).length))) := by
  obtain ⟨b0, h1⟩ := pAt_cons.mp h
  obtain ⟨h2, h3⟩ := pAt_cat.mp h1
  have b1 := pAt_one.mp h3
  obtain ⟨⟨a1, a2⟩, ⟨a3, a4⟩, a5⟩ := pnum (n := n) hx h2 (by omega) (Or.inr (by rw [b1]; exact hc))
  have hne : B (q + 1) ≠ 32 := fun e => by rw [e] at a4; exact absurd a4 (by decide)
  refine ⟨⟨ysk_one (by omega) b0 (Or.inr hne), b1⟩, a5, a2, ?_⟩
  show ysk n B (yw ydg B (n - (q + 1)) (q + 1)) = _
  rw [a1]
theorem pdec_len1 {x : Nat} : 1 ≤ (pdec x).length := by
  unfold pdec
  rw [pdg_len]
  omega
/-- the end of a statement -/
theorem pend {U : yU} (h : B q = 59) (hq : q + 1 ≤ n) (he : q + 1 = n ∨ B (q + 1) ≠ 32) : yrend n B q U = .inr (q + 1, U) := by
  unfold yrend
  rw [if_pos (pyat (by omega) h), ysk_no hq he]
end
/-- a statement's text, and what it does -/
def pSt (w : List Nat) (U U' : yU) : Prop := (1 ≤ w.length ∧ pbt w 0 ≠ 32) ∧ ∀ n B q, pAt B q w → q + w.length ≤ n → (q + w.length = n ∨ B (q + w.length) ≠ 32) → yrst' n B q U = .inr (q + w.length, U')
/-- a text is read up to its end -/
def pRd (l : List Nat) (U : yU) : Prop := ∃ j, j ≤ l.length ∧ ∀ n B, pAt B 0 l → l.length ≤ n → (l.length = n ∨ B l.length ≠ 32) → yrset n B = yrl n B (n - j) l.length U
theorem pRd_st {l w : List Nat} {U U' : yU} (h : pRd l U) (s : pSt w U U') : pRd (l ++ w) U' := by
  obtain ⟨j, hj, h⟩ := h
  obtain ⟨⟨hw, hw0⟩, s⟩ := s
  refine ⟨j + 1, by rw [List.length_append]; omega, fun n B h1 h2 h3 => ?_⟩
  rw [List.length_append] at h2 h3 ⊢
  obtain ⟨h4, h5⟩ := pAt_cat.mp h1
  rw [Nat.zero_add] at h5
  have h0 : B l.length ≠ 32 := by
    have := h5 0 (by omega)
    rw [Nat.add_zero] at this
    rw [this]
    exact hw0
  rw [h n B h4 (by omega) (Or.inr h0)]
  obtain ⟨M, hM⟩ : ∃ M, n - j = M + 1 := ⟨n - j - 1, by omega⟩
  rw [hM, show n - (j + 1) = M by omega, yrl, if_neg (by omega), s n B _ h5 h2 h3]
  rfl
theorem pRd_all {l : List Nat} {U : yU} (h : pRd l U) : yrset l.length (pbt l) = .inr (l.length, U) := by
  obtain ⟨j, hj, h⟩ := h
  rw [h l.length (pbt l) (fun i hi => by rw [Nat.zero_add]) (Nat.le_refl _) (Or.inl rfl)]
  cases hM : l.length - j with
  | zero => rfl
  | succ M => rw [yrl, if_pos (Nat.le_refl _)]
theorem pbt_w0 {i : Nat} {u : List Nat} (hi : i < 14) : pbt (ptw i ++ u) 0 ≠ 32 ∧ 1 ≤ (ptw i ++ u).length := by
  obtain ⟨⟨b1, b2⟩, b3⟩ := yw_ok i hi
  have h := (b3 0 (by omega)).1
  rw [pbt_cat, if_pos (by rw [ptw_len]; omega), ptw_bt (by omega), List.length_append, ptw_len]
  omega
section
variable {n : Nat} {B : Nat → Nat} {q : Nat}
/-- a word with a blank behind -/
theorem pword1 {i : Nat} {u : List Nat} (hi : i < 14) (h : pAt B q (ptw i ++ 32 :: u)) (hq : q + ywl i < n) : (∀ j, j < 14 → yisw n B q j = decide (j = i)) ∧ pAt B (q + ywl i) (32 :: u) := by
  obtain ⟨h1, h2⟩ := pAt_cat.mp h
  rw [ptw_len] at h2
  have b := (pAt_cons.mp h2).1
  exact ⟨(pword_yes hi h1 (by omega) (Or.inr ⟨by rw [b]; rfl, by rw [b]; rfl⟩)).1, h2⟩
theorem pAt_pre {w u : List Nat} {b : Nat} (h : pAt B q (w ++ b :: u)) : pAt B q (w ++ [b]) := by
  obtain ⟨h1, h2⟩ := pAt_cat.mp h
  exact pAt_cat.mpr ⟨h1, pAt_one.mpr (pAt_cons.mp h2).1⟩
theorem pAt_pre1 {w u : List Nat} {a b : Nat} (h : pAt B q (a :: (w ++ b :: u))) : pAt B q (a :: (w ++ [b])) := by
  obtain ⟨h1, h2⟩ := pAt_cons.mp h
  exact pAt_cons.mpr ⟨h1, pAt_pre h2⟩
theorem pAt_post {w u : List Nat} {a : Nat} (h : pAt B q (a :: (w ++ u))) : pAt B (q + 1 + w.length) u := (pAt_cat.mp (pAt_cons.mp h).2).2
end
/-- the head -/
theorem pRd_head {v : Nat → Nat} (h0 : 1 ≤ v 0 ∧ v 0 ≤ 40) (h1 : 1 ≤ v 1 ∧ v 1 ≤ 100) : pRd (ptw 11 ++ pnm v 0 2 ++ [59]) (yD0 (v 0) (v 1), (0, (false, false))) := by
  refine ⟨0, Nat.zero_le _, fun n B h hn he => ?_⟩
  have hw : ptw 11 ++ pnm v 0 2 ++ [59] = ptw 11 ++ 32 :: (pdec (v 0) ++ 32 :: (pdec (v 1) ++ [59])) := by
    simp [pnm]
  have el : (ptw 11 ++ pnm v 0 2 ++ [59]).length = ywl 11 + 1 + (pdec (v 0)).length + 1 + (pdec (v 1)).length + 1 := by
    rw [hw]
    simp only [List.length_append, List.length_cons, List.length_nil, ptw_len]
    omega
  rw [el] at hn he ⊢
  rw [hw] at h
  obtain ⟨a1, a2⟩ := pword1 (n := n) (i := 11) (by decide) h (by omega)
  rw [Nat.zero_add] at a2
  obtain ⟨⟨n1, n2⟩, n3, n4, n5⟩ := pN1 (n := n) (by omega) (pAt_pre1 a2) (by decide) (by omega)
  have a3 := pAt_post a2
  obtain ⟨⟨m1, m2⟩, m3, m4, m5⟩ := pN1 (n := n) (by omega) a3 (by decide) (by omega)
  have k0 : ysk n B 0 = 0 := ysk_no (by omega) (Or.inr (by
    have := h 0 (by simp [ptw_len]; omega)
    rw [Nat.zero_add] at this
    rw [this]
    exact (pbt_w0 (by decide)).1))
  have k9 : ysk n B (ywl 11 + 1 + (pdec (v 0)).length + 1 + (pdec (v 1)).length) = ywl 11 + 1 + (pdec (v 0)).length + 1 + (pdec (v 1)).length := ysk_no (by omega) (Or.inr (by rw [m2]; decide))
  unfold yrset yrhd
  rw [k0, if_pos (by rw [a1 11 (by decide)]; rfl), Nat.zero_add, n1]
  unfold yrh1
  rw [if_pos (by rw [n3]; exact decide_eq_true (by omega)), n5, m1, if_pos (by rw [m3]; exact decide_eq_true (by omega)), m5, n4, m4, k9, pend m2 (by omega) he]
  rfl
/-- a feed -/
theorem pSt_feed {v : Nat → Nat} {U : yU} (h0 : v 0 < U.1.n ∧ U.1.n ≤ 40) (h1 : v 1 < 10000) (hb : U.2.1.testBit (v 0) = false) (hf : U.1.f < 6) : pSt (ptw 5 ++ pnm v 0 2 ++ [59]) U (yaddf U.1 (v 0) (v 1), (U.2.1 ||| 2 ^ v 0, U.2.2)) := by
  have hw : ptw 5 ++ pnm v 0 2 ++ [59] = ptw 5 ++ 32 :: (pdec (v 0) ++ 32 :: (pdec (v 1) ++ [59])) := by
    simp [pnm]
  have el : (ptw 5 ++ pnm v 0 2 ++ [59]).length = ywl 5 + 1 + (pdec (v 0)).length + 1 + (pdec (v 1)).length + 1 := by
    rw [hw]
    simp only [List.length_append, List.length_cons, List.length_nil, ptw_len]
    omega
  refine ⟨⟨by rw [el]; omega, by rw [hw]; exact (pbt_w0 (by decide)).1⟩, fun n B q h hn he => ?_⟩
  rw [el] at hn he ⊢
  rw [hw] at h
  obtain ⟨a1, a2⟩ := pword1 (n := n) (i := 5) (by decide) h (by omega)
  obtain ⟨⟨n1, n2⟩, n3, n4, n5⟩ := pN1 (n := n) (by omega) (pAt_pre1 a2) (by decide) (by omega)
  obtain ⟨⟨m1, m2⟩, m3, m4, m5⟩ := pN1 (n := n) h1 (pAt_post a2) (by decide) (by omega)
  have k9 : ysk n B (q + ywl 5 + 1 + (pdec (v 0)).length + 1 + (pdec (v 1)).length) = q + ywl 5 + 1 + (pdec (v 0)).length + 1 + (pdec (v 1)).length := ysk_no (by omega) (Or.inr (by rw [m2]; decide))
  have e9 : q + (ywl 5 + 1 + (pdec (v 0)).length + 1 + (pdec (v 1)).length + 1) = q + ywl 5 + 1 + (pdec (v 0)).length + 1 + (pdec (v 1)).length + 1 := by omega
  rw [e9] at hn he ⊢
  unfold yrst' yrst
  rw [if_pos (by rw [a1 5 (by decide)]; rfl), n1]
  unfold yrfeed
  rw [if_pos (by rw [n3]; exact decide_eq_true (by omega)), n4, if_neg (by rw [hb]; decide), if_neg (by omega), n5, m1, if_pos (by rw [m3]; exact decide_eq_true (by omega)), m5, m4, k9]
  exact pend m2 hn he
/-- a level -/
theorem pSt_level {v : Nat → Nat} {U : yU} (h0 : v 0 < 256) (hb : U.2.2.1 = false) : pSt (ptw 7 ++ pnm v 0 1 ++ [59]) U (U.1.slv (yI (v 0)), (U.2.1, (true, U.2.2.2))) := by
  have hw : ptw 7 ++ pnm v 0 1 ++ [59] = ptw 7 ++ 32 :: (pdec (v 0) ++ [59]) := by simp [pnm]
  have el : (ptw 7 ++ pnm v 0 1 ++ [59]).length = ywl 7 + 1 + (pdec (v 0)).length + 1 := by
    rw [hw]
    simp only [List.length_append, List.length_cons, List.length_nil, ptw_len]
    omega
  refine ⟨⟨by rw [el]; omega, by rw [hw]; exact (pbt_w0 (by decide)).1⟩, fun n B q h hn he => ?_⟩
  rw [el] at hn he ⊢
  rw [hw] at h
  obtain ⟨a1, a2⟩ := pword1 (n := n) (i := 7) (by decide) h (by omega)
  obtain ⟨⟨n1, n2⟩, n3, n4, n5⟩ := pN1 (n := n) (by omega) a2 (by decide) (by omega)
  have k9 : ysk n B (q + ywl 7 + 1 + (pdec (v 0)).length) = q + ywl 7 + 1 + (pdec (v 0)).length := ysk_no (by omega) (Or.inr (by rw [n2]; decide))
  have e9 : q + (ywl 7 + 1 + (pdec (v 0)).length + 1) = q + ywl 7 + 1 + (pdec (v 0)).length + 1 := by omega
  rw [e9] at hn he ⊢
  unfold yrst' yrst
  rw [if_neg (by rw [a1 5 (by decide)]; decide), if_neg (by rw [a1 0 (by decide)]; decide), if_neg (by rw [a1 6 (by decide)]; decide), if_pos (by rw [a1 7 (by decide)]; rfl), if_neg (by rw [hb]; decide), n1]
  unfold yrlev
  rw [if_pos (by rw [n3]; exact decide_eq_true (by omega)), n5, n4, k9]
  exact pend n2 hn he
/-- a fill -/
theorem pSt_fill {v : Nat → Nat} {U : yU} (h0 : v 0 ≤ v 1 ∧ (v 1 < U.1.n ∧ U.1.n ≤ 40)) (h2 : v 2 < 256) (h3 : v 3 < 256) (h4 : v 4 < 256) : pSt (ptw 6 ++ pnm v 0 5 ++ [59]) U (ypaint U.1 (v 0) (v 1) (65536 * v 2 + 256 * v 3 + v 4), U.2) := by
  have hw : ptw 6 ++ pnm v 0 5 ++ [59] = ptw 6 ++ 32 :: (pdec (v 0) ++ 32 :: (pdec (v 1) ++ 32 :: (pdec (v 2) ++ 32 :: (pdec (v 3) ++ 32 :: (pdec (v 4) ++ [59]))))) := by simp [pnm]
  have el : (ptw 6 ++ pnm v 0 5 ++ [59]).length = ywl 6 + 1 + (pdec (v 0)).length + 1 + (pdec (v 1)).length + 1 + (pdec (v 2)).length + 1 + (pdec (v 3)).length + 1 + (pdec (v 4)).length + 1 := by
    rw [hw]
    simp only [List.length_append, List.length_cons, List.length_nil, ptw_len]
    omega
  refine ⟨⟨by rw [el]; omega, by rw [hw]; exact (pbt_w0 (by decide)).1⟩, fun n B q h hn he => ?_⟩
  rw [el] at hn he ⊢
  rw [hw] at h
  obtain ⟨a1, a2⟩ := pword1 (n := n) (i := 6) (by decide) h (by omega)
  obtain ⟨⟨n1, n2⟩, n3, n4, n5⟩ := pN1 (n := n) (by omega) (pAt_pre1 a2) (by decide) (by omega)
  have a3 := pAt_post a2
  obtain ⟨⟨m1, m2⟩, m3, m4, m5⟩ := pN1 (n := n) (by omega) (pAt_pre1 a3) (by decide) (by omega)
  have a4 := pAt_post a3
  obtain ⟨⟨o1, o2⟩, o3, o4, o5⟩ := pN1 (n := n) (by omega) (pAt_pre1 a4) (by decide) (by omega)
  have a5 := pAt_post a4
  obtain ⟨⟨r1, r2⟩, r3, r4, r5⟩ := pN1 (n := n) (by omega) (pAt_pre1 a5) (by decide) (by omega)
  obtain ⟨⟨s1, s2⟩, s3, s4, s5⟩ := pN1 (n := n) (by omega) (pAt_post a5) (by decide) (by omega)
  have k9 : ysk n B (q + ywl 6 + 1 + (pdec (v 0)).length + 1 + (pdec (v 1)).length + 1 + (pdec (v 2)).length + 1 + (pdec (v 3)).length + 1 + (pdec (v 4)).length) = q + ywl 6 + 1 + (pdec (v 0)).length + 1 + (pdec (v 1)).length + 1 + (pdec (v 2)).length + 1 + (pdec (v 3)).length + 1 + (pdec (v 4)).length := ysk_no (by omega) (Or.inr (by rw [s2]; decide))
  have e9 : q + (ywl 6 + 1 + (pdec (v 0)).length + 1 + (pdec (v 1)).length + 1 + (pdec (v 2)).length + 1 + (pdec (v 3)).length + 1 + (pdec (v 4)).length + 1) = q + ywl 6 + 1 + (pdec (v 0)).length + 1 + (pdec (v 1)).length + 1 + (pdec (v 2)).length + 1 + (pdec (v 3)).length + 1 + (pdec (v 4)).length + 1 := by omega
  rw [e9] at hn he ⊢
  unfold yrst' yrst
  rw [if_neg (by rw [a1 5 (by decide)]; decide), if_neg (by rw [a1 0 (by decide)]; decide), if_pos (by rw [a1 6 (by decide)]; rfl), n1]
  unfold yrfill
  rw [if_pos (by rw [n3]; exact decide_eq_true (by omega)), n5, m1, n4, if_pos (by rw [m3]; exact decide_eq_true (by omega)), m5, o1, m4]
  rw [yrch, if_pos (by rw [o3]; exact decide_eq_true (by omega)), o5, r1, o4, yrch, if_pos (by rw [r3]; exact decide_eq_true (by omega)), r5, s1, r4, yrch, if_pos (by rw [s3]; exact decide_eq_true (by omega)), s5, s4, k9, yrch]
  have ec : 256 * (256 * (256 * 0 + v 2) + v 3) + v 4 = 65536 * v 2 + 256 * v 3 + v 4 := by omega
  rw [ec]
  exact pend s2 hn he
/-- a bad pixel -/
theorem pSt_bad {p kd pd : Nat} {U : yU} (h0 : p < U.1.n ∧ U.1.n ≤ 40) (hk : U.1.kd p = 0) (hb : ybad U.1.kd U.1.n < 10) (hkd : ((kd = 1 ∨ kd = 2) ∧ pd = 0) ∨ (kd = 3 ∧ (2 ≤ pd ∧ pd ≤ 9))) : pSt ((ptw 0 ++ pnm (fun _ => p) 0 1) ++ (ptw (if kd = 1 then 4 else if kd = 2 then 1 else 12) ++ pnm (fun _ => pd) 0 (if kd = 3 then 1 else 0)) ++ [59]) U (ykp U.1 p (yI kd) (yI pd), U.2) := by
  obtain ⟨i, hi⟩ : ∃ i, i = if kd = 1 then 4 else if kd = 2 then 1 else 12 := ⟨_, rfl⟩
  rw [← hi]
  have hi14 : i < 14 := by rw [hi]; split; decide; split <;> decide
  have hw : (ptw 0 ++ pnm (fun _ => p) 0 1) ++ (ptw i ++ pnm (fun _ => pd) 0 (if kd = 3 then 1 else 0)) ++ [59] = ptw 0 ++ 32 :: (pdec p ++ (ptw i ++ (pnm (fun _ => pd) 0 (if kd = 3 then 1 else 0) ++ [59]))) := by simp [pnm]
  refine ⟨⟨by rw [hw]; exact (pbt_w0 (by decide)).2, by rw [hw]; exact (pbt_w0 (by decide)).1⟩, fun n B q h hn he => ?_⟩
  rw [hw] at h hn he ⊢
  have el : (ptw 0 ++ 32 :: (pdec p ++ (ptw i ++ (pnm (fun _ => pd) 0 (if kd = 3 then 1 else 0) ++ [59])))).length = ywl 0 + 1 + (pdec p).length + ywl i + ((pnm (fun _ => pd) 0 (if kd = 3 then 1 else 0)).length + 1) := by
    simp only [List.length_append, List.length_cons, List.length_nil, ptw_len]
    omega
  rw [el] at hn he ⊢
  obtain ⟨a1, a2⟩ := pword1 (n := n) (i := 0) (by decide) h (by omega)
  have a3 := pAt_post a2
  obtain ⟨a4, a5⟩ := pAt_cat.mp a3
  rw [ptw_len] at a5
  obtain ⟨⟨c1, c2⟩, c3⟩ := yw_ok i hi14
  have b6 : B (q + ywl 0 + 1 + (pdec p).length) = ywc i 0 := by
    have := a4 0 (by rw [ptw_len]; omega)
    rw [ptw_bt (by omega)] at this
    exact this
  have hc := (c3 0 (by omega)).1
  have hpre : pAt B (q + ywl 0) (32 :: (pdec p ++ [ywc i 0])) := by
    obtain ⟨g1, g2⟩ := pAt_cons.mp a2
    exact pAt_cons.mpr ⟨g1, pAt_cat.mpr ⟨(pAt_cat.mp g2).1, pAt_one.mpr b6⟩⟩
  obtain ⟨⟨n1, n2⟩, n3, n4, n5⟩ := pN1 (n := n) (by omega) hpre (decide_eq_false (by omega)) (by omega)
  have k5 : ysk n B (q + ywl 0 + 1 + (pdec p).length) = q + ywl 0 + 1 + (pdec p).length := ysk_no (by omega) (Or.inr (by omega))
  unfold yrst' yrst
  rw [if_neg (by rw [a1 5 (by decide)]; decide), if_pos (by rw [a1 0 (by decide)]; rfl)]
  unfold yrbad
  rw [if_neg (by omega), n1]
  unfold yrbad1
  rw [if_pos (by rw [n3]; exact decide_eq_true (by omega)), n4, if_pos hk, n5, k5]
  rcases hkd with ⟨hkd, rfl⟩ | ⟨rfl, hpd⟩
  · have h3 : ¬ kd = 3 := by omega
    rw [if_neg h3] at a5 hn he ⊢
    have b7 : B (q + ywl 0 + 1 + (pdec p).length + ywl i) = 59 := pAt_one.mp a5
    obtain ⟨w1, -⟩ := pword_yes (n := n) hi14 a4 (by omega) (Or.inr ⟨by rw [b7]; rfl, by rw [b7]; rfl⟩)
    have k6 : ysk n B (q + ywl 0 + 1 + (pdec p).length + ywl i) = q + ywl 0 + 1 + (pdec p).length + ywl i := ysk_no (by omega) (Or.inr (by rw [b7]; decide))
    have e9 : q + (ywl 0 + 1 + (pdec p).length + ywl i + ((pnm (fun _ => 0) 0 0).length + 1)) = q + ywl 0 + 1 + (pdec p).length + ywl i + 1 := by
      show q + (ywl 0 + 1 + (pdec p).length + ywl i + (0 + 1)) = _
      omega
    rw [e9] at hn he ⊢
    unfold yrkind
    rcases hkd with rfl | rfl
    · have hi4 : i = 4 := hi
      subst hi4
      rw [if_pos (by rw [w1 4 (by decide)]; rfl), k6]
      exact pend b7 hn he
    · have hi1 : i = 1 := hi
      subst hi1
      rw [if_neg (by rw [w1 4 (by decide)]; decide), if_pos (by rw [w1 1 (by decide)]; rfl), k6]
      exact pend b7 hn he
  · have hi12 : i = 12 := hi
    subst hi12
    rw [if_pos rfl] at a5 hn he ⊢
    have a5' : pAt B (q + ywl 0 + 1 + (pdec p).length + ywl 12) (32 :: (pdec pd ++ [59])) := by
      have e : pnm (fun _ => pd) 0 1 ++ [59] = 32 :: (pdec pd ++ [59]) := by simp [pnm]
      rw [← e]
      exact a5
    have b7 := (pAt_cons.mp a5').1
    have e8 : (pnm (fun _ => pd) 0 1).length = 1 + (pdec pd).length := by
      simp only [pnm, List.append_nil, List.length_cons]
      omega
    rw [e8] at hn he ⊢
    obtain ⟨w1, -⟩ := pword_yes (n := n) (show 12 < 14 by decide) a4 (by omega) (Or.inr ⟨by rw [b7]; rfl, by rw [b7]; rfl⟩)
    obtain ⟨⟨m1, m2⟩, m3, m4, m5⟩ := pN1 (n := n) (by omega) a5' (by decide) (by omega)
    have k6 : ysk n B (q + ywl 0 + 1 + (pdec p).length + ywl 12 + 1 + (pdec pd).length) = q + ywl 0 + 1 + (pdec p).length + ywl 12 + 1 + (pdec pd).length := ysk_no (by omega) (Or.inr (by rw [m2]; decide))
    have e9 : q + (ywl 0 + 1 + (pdec p).length + ywl 12 + (1 + (pdec pd).length + 1)) = q + ywl 0 + 1 + (pdec p).length + ywl 12 + 1 + (pdec pd).length + 1 := by omega
    rw [e9] at hn he ⊢
    unfold yrkind
    rw [if_neg (by rw [w1 4 (by decide)]; decide), if_neg (by rw [w1 1 (by decide)]; decide), if_pos (by rw [w1 12 (by decide)]; rfl), m1]
    unfold yrstu
    rw [if_pos (by rw [m3]; exact decide_eq_true (by omega)), m5, m4, k6]
    exact pend m2 hn he
/-- a curve -/
theorem pSt_curve {σ : xS} {k a : Nat} {w : List Nat} {l : List Int32} {U : yU} (h0 : pNt σ k a 0 w l) (hk : k ≤ 4) (hb : U.2.2.2 = false) : pSt ((ptw 25 ++ w) ++ ptw 18) U (U.1.scv l.length (yg l), (U.2.1, (U.2.2.1, true))) := by
  have e25 : ptw 25 = ptw 3 ++ [32] := by decide
  have e18 : ptw 18 = [32, 59] := by decide
  have hw : (ptw 25 ++ w) ++ ptw 18 = ptw 3 ++ 32 :: (w ++ ptw 18) := by rw [e25]; simp
  have el : ((ptw 25 ++ w) ++ ptw 18).length = ywl 3 + 1 + w.length + 2 := by
    rw [hw, e18]
    simp only [List.length_append, List.length_cons, List.length_nil, ptw_len]
    omega
  refine ⟨⟨by rw [el]; omega, by rw [hw]; exact (pbt_w0 (by decide)).1⟩, fun n B q h hn he => ?_⟩
  rw [el] at hn he ⊢
  rw [hw] at h
  obtain ⟨a1, a2⟩ := pword1 (n := n) (i := 3) (by decide) h (by omega)
  obtain ⟨b0, a3⟩ := pAt_cons.mp a2
  obtain ⟨a4, a5⟩ := pAt_cat.mp a3
  obtain ⟨⟨c1, c2⟩, -⟩ := pst_at (pNt_st _ _ _ _ _ h0) a4
  have k1 : ysk n B (q + ywl 3) = q + ywl 3 + 1 := ysk_one (by omega) b0 (Or.inr c1)
  have hc := pcurve (n := n) (B := B) h0 hk a4 a5 (by omega)
  rw [e18] at a5
  have b9 : B (q + ywl 3 + 1 + w.length + 1) = 59 := pAt_one.mp (pAt_cons.mp a5).2
  have e9 : q + (ywl 3 + 1 + w.length + 2) = q + ywl 3 + 1 + w.length + 1 + 1 := by omega
  rw [e9] at hn he ⊢
  unfold yrst' yrst
  rw [if_neg (by rw [a1 5 (by decide)]; decide), if_neg (by rw [a1 0 (by decide)]; decide), if_neg (by rw [a1 6 (by decide)]; decide), if_neg (by rw [a1 7 (by decide)]; decide), if_pos (by rw [a1 3 (by decide)]; rfl), if_neg (by rw [hb]; decide), k1]
  unfold yrcur
  rw [hc]
  exact pend b9 hn he

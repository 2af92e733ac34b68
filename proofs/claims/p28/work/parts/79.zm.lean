/-! ===== strips by chance: the lamps ===== -/
section
variable {d : Nat} {b r : Nat} {σ0 : xS} {t0 : yT}
/-- as writing begins -/
theorem pX_0 {D0 : yD} {k0 : Nat} {E0 : Nat → yD} {s0 s1 : Option yD} {B0 : Nat → Nat} {eo en : Int32} (X0 : pX0 b r σ0 t0) (C : yCI t0 D0 k0 E0 s0 s1 0 B0 eo en) (h : ∃ f, σ0.1 b = some (pints 8 f) ∧ ∀ j, j < 6 → f j = 0) : pX b r σ0 t0 0 0 σ0 [] := by
  obtain ⟨f, h1, h2⟩ := h
  refine ⟨⟨t0, X0.1.1, fun _ _ _ => ⟨rfl, rfl, rfl⟩, C.2.2.2.1.1, C.2.2.2.1.2.1, fun i hi => absurd hi (Nat.not_lt_zero _)⟩, ⟨f, h1, h2 0 (by decide), fun j hj => ?_⟩, X0.2.2.2, pF.rfl', fun i => by rw [pbt_hi (Nat.zero_le _)]; decide⟩
  have e : pwd [] j = 0 := by
    unfold pwd
    rw [pbt_hi (Nat.zero_le _), pbt_hi (Nat.zero_le _), pbt_hi (Nat.zero_le _), pbt_hi (Nat.zero_le _)]
    rfl
  rw [h2 (1 + j) (by omega), e]
  rfl
theorem l_207a {D0 : yD} {k0 : Nat} {E0 : Nat → yD} {s0 s1 : Option yD} {B0 : Nat → Nat} {eo en : Int32} (X0 : pX0 b r σ0 t0) (C : yCI t0 D0 k0 E0 s0 s1 0 B0 eo en) (h : ∃ f, σ0.1 b = some (pints 8 f) ∧ ∀ j, j < 6 → f j = 0) (hr : σ0.2.1.1 + 100 < 900000) : ∃ σ N un R, (1 ≤ N ∧ N ≤ 9) ∧ ((1 ≤ un ∧ un ≤ 100) ∧ ((∀ Q, G (d + 20) 207 0 [some (.ref 0), some (.ref b), some (.ref r), none, none, none, none, none, none, none, none] [] σ0 Q ↔ G (d + 20) 207 35 [some (.ref 0), some (.ref b), some (.ref r), some (.ref σ0.2.1.1), some (.int (yI N)), some (.int (yI N)), none, none, none, none, none] [] σ Q) ∧ pR7 b r σ0 t0 σ0.2.1.1 60 300 σ [] R (yD0 N un) .null)) := by
  have hlo := X0.lo
  have X := pX_0 X0 C h
  have Z := X.Z X0
  have hs9 : σ0.2.1.1 < 1000000 := by omega
  have r0 : σ0.2.1.1 < 900000 := by omega
  have ch0 : pch σ0 r := X0.2.2.2
  have hr9 := ch0.1
  -- a strip
  have Z1 := pZ_new (e := .inr (12, xdef 12)) (m := 9) Z
  have a1 : (xnew σ0 (.inr (12, xdef 12)) 9).1 σ0.2.1.1 = some (.inr (12, xdef 12)) := pnew_at
  have F1 : pF (fun a => a = r) 1 9 σ0 (xnew σ0 (.inr (12, xdef 12)) 9) := pF_new
  have ch1 : pch (xnew σ0 (.inr (12, xdef 12)) 9) r := pch_keep ch0 Z (pF_new (P := pno)) id
  have x1 : (xnew σ0 (.inr (12, xdef 12)) 9).2.1.1 = σ0.2.1.1 + 1 := rfl
  obtain ⟨σ1, e1⟩ : ∃ σ1, σ1 = xnew σ0 (.inr (12, xdef 12)) 9 := ⟨_, rfl⟩
  rw [← e1] at Z1 a1 F1 ch1 x1
  obtain ⟨τ1, R1, g1, F1', Z2, S1, ⟨q1, q2⟩, q3, q4⟩ := m_132 (d := d + 18) pI0_ok hs9 a1 Z1 (by omega)
  have nx1 := F1'.2.2.1
  have ch2 : pch τ1 r := pch_keep ch1 Z1 F1' (by omega)
  have F2 : pF (fun a => a = r) 8 30 σ0 τ1 := (pF.trans F1 F1' (P' := fun a => a = r) (fun a ha q => q.elim id (fun q => by omega))).mono (fun _ _ q => q) (by omega) (by omega)
  have s2 : τ1.1 σ0.2.1.1 = some (pN12 (.ref R1.lr) (.ref R1.fr) 1 255) := S1.1.2
  obtain ⟨fr9, gF, hF1, hF2⟩ := S1.2.2.2.2.1
  obtain ⟨fg9, cF, hG1, hG2, hG3⟩ := S1.2.2.2.2.2 0 (by decide)
  -- how many
  obtain ⟨v, τ2, hv, g2, ⟨⟨Z3, ch3⟩, F3'⟩, kp3, x3⟩ := pch_go (d := d + 19) ch2 Z2 (b := 9) (by decide) (by decide)
  have F3 : pF (fun a => a = r) 8 30 σ0 τ2 := (pF.trans F2 F3' (P' := fun a => a = r) (fun a ha q => q.elim id id)).mono (fun _ _ q => q) (by omega) (by omega)
  obtain ⟨N, hN⟩ : ∃ N, N = 1 + v := ⟨_, rfl⟩
  have nx2 : τ2.2.1.1 = τ1.2.1.1 := by rw [x3]
  have s3 : τ2.1 σ0.2.1.1 = some (pN12 (.ref R1.lr) (.ref R1.fr) 1 255) := by rw [kp3 _ (by omega), s2]
  -- the row
  have Z4 := pZ_new (e := prow 6 N (fun _ => none)) (m := N) Z3
  have F4 := pF_al (e := prow 6 N (fun _ => none)) (m := N) F3
  have a4 : (xnew τ2 (prow 6 N (fun _ => none)) N).1 τ2.2.1.1 = some (prow 6 N (fun _ => none)) := pnew_at
  have k4 : ∀ {a e}, τ2.1 a = some e → (xnew τ2 (prow 6 N (fun _ => none)) N).1 a = some e := fun {a e} h => by
    have := pZ_lt Z3 h
    rw [xnew_1, if_neg (by omega), h]
  have s4 := k4 s3
  have x4 : (xnew τ2 (prow 6 N (fun _ => none)) N).2.1.1 = τ2.2.1.1 + 1 := rfl
  obtain ⟨σ2, e2⟩ : ∃ σ2, σ2 = xnew τ2 (prow 6 N (fun _ => none)) N := ⟨_, rfl⟩
  rw [← e2] at Z4 F4 a4 s4 x4
  have k4' : ∀ {a e}, τ2.1 a = some e → σ2.1 a = some e := fun {a e} h => by rw [e2]; exact k4 h
  have k5 : ∀ {a e}, a ≠ σ0.2.1.1 → σ2.1 a = some e → (xwr σ2 σ0.2.1.1 (pN12 (.ref τ2.2.1.1) (.ref R1.fr) 1 255)).1 a = some e := fun {a e} h1 h2 => by rw [xwr_1, if_neg h1, h2]
  have A5 : pYl (xwr σ2 σ0.2.1.1 (pN12 (.ref τ2.2.1.1) (.ref R1.fr) 1 255)) σ0 r σ0.2.1.1 τ2.2.1.1 N 0 (8 + 1) (30 + N) (pN12 (.ref τ2.2.1.1) (.ref R1.fr) 1 255) (fun _ => 0) (fun _ => 0) (fun _ => 0) (fun _ => 0) (xwr σ2 σ0.2.1.1 (pN12 (.ref τ2.2.1.1) (.ref R1.fr) 1 255)) := by
    refine ⟨⟨⟨pF_hi F4 Z4 s4 (Nat.le_refl _), pZ_wr Z4 s4, ?_⟩, fun a e h1 _ => h1⟩, ⟨by show σ0.2.1.1 < σ2.2.1.1; omega, pwr_at⟩, ⟨⟨by omega, by show τ2.2.1.1 < σ2.2.1.1; omega⟩, fun _ => none, k5 (by omega) a4, fun q hq => absurd hq (Nat.not_lt_zero _)⟩, fun q hq => absurd hq (Nat.not_lt_zero _), fun p q _ hq => absurd hq (Nat.not_lt_zero _)⟩
    obtain ⟨h1, y, h2⟩ := ch3
    exact ⟨h1, y, k5 (by omega) (k4' h2)⟩
  obtain ⟨σ3, e3⟩ : ∃ σ3, σ3 = xwr σ2 σ0.2.1.1 (pN12 (.ref τ2.2.1.1) (.ref R1.fr) 1 255) := ⟨_, rfl⟩
  rw [← e3] at A5
  have k5' : ∀ {a e}, a ≠ σ0.2.1.1 → σ2.1 a = some e → σ3.1 a = some e := fun {a e} h1 h2 => by rw [e3]; exact k5 h1 h2
  obtain ⟨υ, M, T, U, V, g6, A6⟩ := l_207l (d := d) (l0 := some (.ref 0)) (l1 := some (.ref b)) (l2 := some (.ref r)) (n := N) (by omega) (by omega) hlo.2.2.1 hs9 (by omega) N 0 _ _ σ3 _ _ _ _ (Nat.zero_add _) (by omega) A5
  obtain ⟨⟨⟨F6, Z6, ch6⟩, kk⟩, ⟨y1, s6⟩, ⟨⟨y2, y3⟩, gL, y4, y5⟩, y6, y7⟩ := A6
  have nx6 := F6.2.2.1
  -- the unit
  obtain ⟨v7, τ7, hv7, g7, ⟨⟨Z7, ch7⟩, F7'⟩, kp7, x7⟩ := pch_go (d := d + 19) ch6 Z6 (b := 100) (by decide) (by decide)
  have F7 : pF (fun a => a = r) (8 + 1 + 4 * N) (30 + N + 17 * N) σ0 τ7 := (pF.trans F6 F7' (P' := fun a => a = r) (fun a ha q => q.elim id id)).mono (fun _ _ q => q) (by omega) (by omega)
  have s7 : τ7.1 σ0.2.1.1 = some (pN12 (.ref τ2.2.1.1) (.ref R1.fr) 1 255) := by rw [kp7 _ (by omega), s6]
  have nx7 : τ7.2.1.1 = υ.2.1.1 := by rw [x7]
  have F8 := pF_hi F7 Z7 s7 (Nat.le_refl _) (e' := pN12 (.ref τ2.2.1.1) (.ref R1.fr) (yI (1 + v7)) 255)
  have Z8 := pZ_wr Z7 s7 (e' := pN12 (.ref τ2.2.1.1) (.ref R1.fr) (yI (1 + v7)) 255)
  have k8 : ∀ {a e}, a ≠ σ0.2.1.1 → a ≠ r → υ.1 a = some e → (xwr τ7 σ0.2.1.1 (pN12 (.ref τ2.2.1.1) (.ref R1.fr) (yI (1 + v7)) 255)).1 a = some e := fun {a e} h1 h2 h3 => by rw [xwr_1, if_neg h1, kp7 _ h2, h3]
  have ch8 : pch (xwr τ7 σ0.2.1.1 (pN12 (.ref τ2.2.1.1) (.ref R1.fr) (yI (1 + v7)) 255)) r := by
    obtain ⟨h1, y, h2⟩ := ch7
    exact ⟨h1, y, by rw [xwr_1, if_neg (by omega), h2]⟩
  have kc8 : ∀ {a y}, pC υ a y → pC (xwr τ7 σ0.2.1.1 (pN12 (.ref τ2.2.1.1) (.ref R1.fr) (yI (1 + v7)) 255)) a y := fun {a y} ⟨h0, c, h3, h4⟩ => ⟨h0, c, k8 (fun q => by rw [q, s6] at h3; simp at h3) (fun q => by
    obtain ⟨-, y', h2⟩ := ch6
    rw [q, h2] at h3
    simp at h3) h3, h4⟩
  have hFrow : υ.1 R1.fr = some (prow 5 1 gF) := kk _ _ (k5' (by have := q2.1; omega) (k4' (by rw [kp3 _ (by have := q2.1; omega)]; exact hF1))) (by have := q2.2; omega)
  have hGrow : υ.1 (R1.fg 0) = some (pints 2 cF) := kk _ _ (k5' (by have := q4.1; omega) (k4' (by rw [kp3 _ (by have := q4.1; omega)]; exact hG1))) (by have := q4.2; omega)
  refine ⟨xwr τ7 σ0.2.1.1 (pN12 (.ref τ2.2.1.1) (.ref R1.fr) (yI (1 + v7)) 255), N, 1 + v7, (τ2.2.1.1, (M, (R1.fr, (R1.fg, (T, (U, V)))))), by omega, by omega, fun Q => ?_, ?_, ⟨⟨hs9, pwr_at⟩, ⟨by show τ2.2.1.1 < 1000000; omega, gL, k8 (by show τ2.2.1.1 ≠ _; omega) (by show τ2.2.1.1 ≠ _; omega) y4, y5⟩, fun p hp => ?_, fun p hp => ?_, ⟨fr9, gF, k8 (by show R1.fr ≠ _; have := q2.1; omega) (by show R1.fr ≠ _; have := q2.1; omega) hFrow, hF2⟩, fun q hq => ?_⟩, ?_⟩
  · have q6 := g6 Q
    have os1 : xRd σ1 σ0.2.1.1 = some (.inr (12, xdef 12)) := (yrd_lt hs9).trans a1
    obtain ⟨fr1, or1⟩ : ∃ fs, xRd τ1 r = some (.inr (11, fs)) := ⟨_, (yrd_lt hr9).trans ch2.2.choose_spec⟩
    obtain ⟨fr6, or6⟩ : ∃ fs, xRd υ r = some (.inr (11, fs)) := ⟨_, (yrd_lt hr9).trans ch6.2.choose_spec⟩
    have g2' : Ra (d + 19) 131 [.ref r, .int 9] τ1 (.inl (some (.int (yI v)))) τ2 := g2
    have g7' : Ra (d + 19) 131 [.ref r, .int 100] υ (.inl (some (.int (yI v7)))) τ7 := g7
    have p1 : (1 : Int32) + yI v = yI N := by rw [hN]; exact yI_add (n := 1)
    have p7 : (1 : Int32) + yI v7 = yI (1 + v7) := yI_add (n := 1)
    have n1 : ¬ yI N < 0 := yI_nneg (by omega)
    have n2 : (yI N).toNatClampNeg = N := yI_clamp (by omega)
    have n3 : N ≤ 100000 := by omega
    have r2 : τ2.2.1.1 < 900000 := by omega
    simp only [s_207_0, r0, true_and]
    rw [← e1]
    simp only [s_207_1, s_207_2, s_207_3 hs9, s_207_4, s_207_5, s_207_6, s_207_7, s_207_8, s_207_9, s_207_10, s_207_11, s_207_12, os1, g1 _, or1, g2' _, p1, n1, n2, n3, r2, not_false_eq_true, hcl_s, true_and, and_true, Gk_v, Gk_n, xcat_nil, xcat_i, xcat_r, xcat_l, xcat_d, Nat.zero_le, Nat.reduceAdd, Nat.reduceLeDiff, true_and, and_true, ykl_i, ykl_r, ykl_n, ykl_l]
    have e2' : xnew τ2 (.inl (6, (N, .inr (.inr (.inr (.inr (fun _ => none))))))) N = σ2 := e2.symm
    rw [e2']
    simp only [s_207_13, s_207_14, s_207_15, s4, hs9, hgf_s, hsel_0, hsel_1, hsel_2, hsel_3, hsel_4, hsel_5, hsel_6, hsel_7, hsel_8, hset_0, hset_1, hset_2, hset_3, hset_4, hset_5, hset_6, hset_7, hset_8, hpf_s, hcl_s, hai_s, hpi_0, hpi_1, hln_0, hln_1, List.length_cons, List.length_nil, xwr_1, xwr_2, xnew_1, xnew_n, xnew_s, xnew_z, Nat.reduceLT, ite_true, and_self, hp_8_0, hp_8_1, hn_8_1, hp_8_2, hn_8_2, hp_9_0, hp_9_1, hp_9_2, hp_9_3, hp_9_4, hp_9_5, hn_9_5, hp_9_6, hn_9_6, hp_9_7, hn_9_7, hp_10_0, hp_10_1, hp_10_2, hn_10_2, hp_10_3, hn_10_3, hp_11_0, hp_12_0, hn_12_0, hp_12_1, hp_12_2, hp_12_3, hp_12_4, hp_12_5, hn_12_5, hp_12_6, hn_12_6, hp_12_7, hp_12_8, hp_13_0, hn_13_0, hp_13_1, hp_13_2, hp_13_3, hp_14_0, hn_14_0, hp_14_1, hp_14_2, hp_14_3, xdef_8, xdef_9, xdef_10, xdef_11, xdef_12, xdef_13, xdef_14, Gk_v, Gk_n, xcat_nil, xcat_i, xcat_r, xcat_l, xcat_d, Nat.zero_le, Nat.reduceAdd, Nat.reduceLeDiff, true_and, and_true, ykl_i, ykl_r, ykl_n, ykl_l]
    have e3' : xwr σ2 σ0.2.1.1 (.inr (12, [.ref τ2.2.1.1, .int 1, .int 255, .int 0, .int 0, .ref R1.fr, .null, .int 0, .int 0])) = σ3 := e3.symm
    rw [e3']
    refine q6.trans ?_
    simp only [s_207_28, s_207_29, s_207_30, s_207_31, s_207_32, s_207_33, s_207_34, or6, g7' _, p7, s7, hs9, hgf_s, hsel_0, hsel_1, hsel_2, hsel_3, hsel_4, hsel_5, hsel_6, hsel_7, hsel_8, hset_0, hset_1, hset_2, hset_3, hset_4, hset_5, hset_6, hset_7, hset_8, hpf_s, hcl_s, hai_s, hpi_0, hpi_1, hln_0, hln_1, List.length_cons, List.length_nil, xwr_1, xwr_2, xnew_1, xnew_n, xnew_s, xnew_z, Nat.reduceLT, ite_true, and_self, hp_8_0, hp_8_1, hn_8_1, hp_8_2, hn_8_2, hp_9_0, hp_9_1, hp_9_2, hp_9_3, hp_9_4, hp_9_5, hn_9_5, hp_9_6, hn_9_6, hp_9_7, hn_9_7, hp_10_0, hp_10_1, hp_10_2, hn_10_2, hp_10_3, hn_10_3, hp_11_0, hp_12_0, hn_12_0, hp_12_1, hp_12_2, hp_12_3, hp_12_4, hp_12_5, hn_12_5, hp_12_6, hn_12_6, hp_12_7, hp_12_8, hp_13_0, hn_13_0, hp_13_1, hp_13_2, hp_13_3, hp_14_0, hn_14_0, hp_14_1, hp_14_2, hp_14_3, xdef_8, xdef_9, xdef_10, xdef_11, xdef_12, xdef_13, xdef_14, Gk_v, Gk_n, xcat_nil, xcat_i, xcat_r, xcat_l, xcat_d, Nat.zero_le, Nat.reduceAdd, Nat.reduceLeDiff, true_and, and_true, ykl_i, ykl_r, ykl_n, ykl_l]
  · refine ⟨?_, ?_, ch8, ?_, fun i => by rw [pbt_hi (Nat.zero_le _)]; decide⟩
    · obtain ⟨⟨t, ht, hh, T0⟩, -⟩ := X
      have F9 : pF (fun a => σ0.2.1.1 ≤ a ∨ a = r) (8 + 1 + 4 * N) (30 + N + 17 * N) σ0 (xwr τ7 σ0.2.1.1 (pN12 (.ref τ2.2.1.1) (.ref R1.fr) (yI (1 + v7)) 255)) := F8.mono (fun _ _ q => Or.inr q) (Nat.le_refl _) (Nat.le_refl _)
      exact ((pX_0 X0 C h).law X0 F9 (fun a q => q) ch8).1
    · have F9 : pF (fun a => σ0.2.1.1 ≤ a ∨ a = r) (8 + 1 + 4 * N) (30 + N + 17 * N) σ0 (xwr τ7 σ0.2.1.1 (pN12 (.ref τ2.2.1.1) (.ref R1.fr) (yI (1 + v7)) 255)) := F8.mono (fun _ _ q => Or.inr q) (Nat.le_refl _) (Nat.le_refl _)
      exact ((pX_0 X0 C h).law X0 F9 (fun a q => q) ch8).2.1
    · exact F8.mono (fun a _ q => Or.inr (Or.inr (Or.inr q))) (by omega) (by omega)
  · obtain ⟨⟨m1, m2⟩, m3, -⟩ := y6 p hp
    refine ⟨by show M p < 1000000; omega, ?_⟩
    have hbp : (yD0 N (1 + v7)).bp p = false := Nat.zero_testBit p
    rw [hbp]
    exact k8 (by show M p ≠ _; omega) (by show M p ≠ _; omega) m3
  · obtain ⟨⟨m1, m2⟩, m3, m4, m5, m6⟩ := y6 p hp
    exact ⟨⟨kc8 m4, pcol_0⟩, ⟨kc8 m5, pcol_0⟩, kc8 m6, pcol_0⟩
  · have hq0 : q = 0 := Nat.lt_one_iff.mp hq
    subst hq0
    exact ⟨fg9, cF, k8 (by show R1.fg 0 ≠ _; have := q4.1; omega) (by show R1.fg 0 ≠ _; have := q4.1; omega) hGrow, hG2, hG3⟩
  · have xe : (xwr τ7 σ0.2.1.1 (pN12 (.ref τ2.2.1.1) (.ref R1.fr) (yI (1 + v7)) 255)).2.1.1 = υ.2.1.1 := nx7
    have hp0 : ∀ p, p < 1 → p = 0 := fun p h => by omega
    refine ⟨⟨Nat.le_refl _, by rw [xe]; omega⟩, ⟨by show _ ≤ τ2.2.1.1; omega, by rw [xe]; show τ2.2.1.1 < _; omega⟩, ⟨by show _ ≤ R1.fr; have := q2.1; omega, by rw [xe]; show R1.fr < _; have := q2.2; omega⟩, ⟨fun p hp => ?_, fun q hq => ?_⟩, fun p q hp hq h => ?_, fun p q hp hq h => ?_⟩
    · obtain ⟨⟨h1, h2⟩, -⟩ := y6 p hp
      exact ⟨by show _ ≤ M p; omega, by rw [xe]; show M p < _; omega⟩
    · have hq0 : q = 0 := Nat.lt_one_iff.mp hq
      subst hq0
      exact ⟨by show _ ≤ R1.fg 0; have := q4.1; omega, by rw [xe]; show R1.fg 0 < _; have := q4.2; omega⟩
    · have h' : M p = M q := h
      rcases Nat.lt_trichotomy p q with g | g | g
      · have := y7 p q g hq
        omega
      · exact g
      · have := y7 q p g hp
        omega
    · have h1 : p = 0 := Nat.lt_one_iff.mp hp
      have h2 : q = 0 := Nat.lt_one_iff.mp hq
      omega
end

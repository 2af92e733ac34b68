/-! ===== a strip's copy, whole ===== -/
section
variable {d : Nat} {σ : xS} {D : yD} {s : Nat} {R : pR} {cv : Value} {dn en : Int32}
theorem m_133 (S : pS σ s R D cv dn en) (hD : yDok D) (h9 : D.n ≤ 9) (Z : pZ σ) (hcv : cv = .null ∨ ∃ a, cv = .ref a) (hr : σ.2.1.1 + 80 < 900000) : ∃ τ R', Ra (d + 2) 133 [.ref s] σ (.inl (some (.ref σ.2.1.1))) τ ∧ (pF pno 60 250 σ τ ∧ (pZ τ ∧ (pS τ σ.2.1.1 R' D cv dn en ∧ pJ σ.2.1.1 τ.2.1.1 σ.2.1.1 R' D))) := by
  have hn40 := hD.n40
  have hn1 := hD.n1
  have hf6 := hD.f6
  have hs9 : σ.2.1.1 < 1000000 := by omega
  have hs0 := S.1.1
  have r0 : σ.2.1.1 < 900000 := by omega
  -- a new strip
  have Z1 := pZ_new (e := .inr (12, xdef 12)) (m := 9) Z
  have a1 : (xnew σ (.inr (12, xdef 12)) 9).1 σ.2.1.1 = some (.inr (12, xdef 12)) := pnew_at
  have F1 : pF pno 1 9 σ (xnew σ (.inr (12, xdef 12)) 9) := pF_new
  have x1 : (xnew σ (.inr (12, xdef 12)) 9).2.1.1 = σ.2.1.1 + 1 := rfl
  obtain ⟨σ1, e1⟩ : ∃ σ1, σ1 = xnew σ (.inr (12, xdef 12)) 9 := ⟨_, rfl⟩
  rw [← e1] at Z1 a1 F1 x1
  obtain ⟨τ1, R1, g1, F1', Z2, S1, -⟩ := m_132 (d := d) pI0_ok hs9 a1 Z1 (by omega)
  have nx1 := F1'.2.2.1
  have F2 : pF pno 8 30 σ τ1 := by
    have q := pF.trans F1 F1' (P' := fun b => b = σ.2.1.1) (fun b _ q => q.elim (fun q => q.elim) id)
    exact q.mono (fun b hb q => by omega) (by omega) (by omega)
  have s2 : τ1.1 σ.2.1.1 = some (pN12 (.ref R1.lr) (.ref R1.fr) 1 255) := S1.1.2
  have fr9 : R1.fr < 1000000 := S1.fr0
  obtain ⟨F0, hF0⟩ : ∃ F0, F0 = R1.fr := ⟨_, rfl⟩
  obtain ⟨L0, hL0⟩ : ∃ L0, L0 = R1.lr := ⟨_, rfl⟩
  rw [← hF0, ← hL0] at s2
  rw [← hF0] at fr9
  have nx2 := F2.2.2.1
  -- its row of lamps
  have Z3 := pZ_new (e := prow 6 D.n (fun _ => none)) (m := D.n) Z2
  have F3 : pF pno (8 + 1) (30 + D.n) σ (xnew τ1 (prow 6 D.n (fun _ => none)) D.n) := pF_al F2
  have a3 : (xnew τ1 (prow 6 D.n (fun _ => none)) D.n).1 τ1.2.1.1 = some (prow 6 D.n (fun _ => none)) := pnew_at
  have s3 : (xnew τ1 (prow 6 D.n (fun _ => none)) D.n).1 σ.2.1.1 = some (pN12 (.ref L0) (.ref F0) 1 255) := by rw [xnew_1, if_neg (by omega), s2]
  have x3 : (xnew τ1 (prow 6 D.n (fun _ => none)) D.n).2.1.1 = τ1.2.1.1 + 1 := rfl
  obtain ⟨σ2, e2⟩ : ∃ σ2, σ2 = xnew τ1 (prow 6 D.n (fun _ => none)) D.n := ⟨_, rfl⟩
  rw [← e2] at Z3 F3 a3 s3 x3
  have A3 : pYa σ σ.2.1.1 τ1.2.1.1 D.n 0 (8 + 1) (30 + D.n) (pN12 (.ref τ1.2.1.1) (.ref F0) 1 255) R D (fun _ => 0) (xwr σ2 σ.2.1.1 (pN12 (.ref τ1.2.1.1) (.ref F0) 1 255)) :=
    ⟨⟨pF_hi F3 Z3 s3 (Nat.le_refl _), pZ_wr Z3 s3⟩, ⟨⟨by show σ.2.1.1 < σ2.2.1.1; omega, Nat.le_refl _⟩, pwr_at⟩, ⟨⟨by omega, by show τ1.2.1.1 < σ2.2.1.1; omega⟩, fun _ => none, by rw [xwr_1, if_neg (by omega), a3], fun q hq => absurd hq (Nat.not_lt_zero _)⟩, fun q hq => absurd hq (Nat.not_lt_zero _), fun p q _ hq => absurd hq (Nat.not_lt_zero _)⟩
  obtain ⟨σ3, e3⟩ : ∃ σ3, σ3 = xwr σ2 σ.2.1.1 (pN12 (.ref τ1.2.1.1) (.ref F0) 1 255) := ⟨_, rfl⟩
  rw [← e3] at A3
  obtain ⟨υ, M, g4, A4⟩ := l_133a (d := d) S hD h9 Z (by omega) hs9 (by omega) D.n 0 (8 + 1) (30 + D.n) σ3 _ (Nat.zero_add _) (by omega) A3
  obtain ⟨⟨F4, Z4⟩, ⟨⟨y1, -⟩, s4⟩, ⟨⟨y2, y3⟩, gL, y4, y5⟩, y6, y7⟩ := A4
  have nx4 := F4.2.2.1
  -- its numbers
  have Z5 := pZ_wr Z4 s4 (e' := .inr (12, [.ref τ1.2.1.1, .int D.un, .int D.lv, .int D.sh, .int D.ac, .ref F0, .null, .int 0, .int 0]))
  have F5 := pF_hi F4 Z4 s4 (Nat.le_refl _) (e' := .inr (12, [.ref τ1.2.1.1, .int D.un, .int D.lv, .int D.sh, .int D.ac, .ref F0, .null, .int 0, .int 0]))
  have s5 : (xwr υ σ.2.1.1 (.inr (12, [.ref τ1.2.1.1, .int D.un, .int D.lv, .int D.sh, .int D.ac, .ref F0, .null, .int 0, .int 0]))).1 σ.2.1.1 = some (.inr (12, [.ref τ1.2.1.1, .int D.un, .int D.lv, .int D.sh, .int D.ac, .ref F0, .null, .int 0, .int 0])) := pwr_at
  have k5 : ∀ {b e}, b ≠ σ.2.1.1 → υ.1 b = some e → (xwr υ σ.2.1.1 (.inr (12, [.ref τ1.2.1.1, .int D.un, .int D.lv, .int D.sh, .int D.ac, .ref F0, .null, .int 0, .int 0]))).1 b = some e := fun {b e} h1 h2 => by rw [xwr_1, if_neg h1, h2]
  have x5 : (xwr υ σ.2.1.1 (.inr (12, [.ref τ1.2.1.1, .int D.un, .int D.lv, .int D.sh, .int D.ac, .ref F0, .null, .int 0, .int 0]))).2.1.1 = υ.2.1.1 := rfl
  obtain ⟨σ4, e4⟩ : ∃ σ4, σ4 = xwr υ σ.2.1.1 (.inr (12, [.ref τ1.2.1.1, .int D.un, .int D.lv, .int D.sh, .int D.ac, .ref F0, .null, .int 0, .int 0])) := ⟨_, rfl⟩
  rw [← e4] at Z5 F5 s5 x5
  have k5' : ∀ {b e}, b ≠ σ.2.1.1 → υ.1 b = some e → σ4.1 b = some e := fun {b e} h1 h2 => by rw [e4]; exact k5 h1 h2
  -- its row of feeds
  have Z6 := pZ_new (e := prow 5 D.f (fun _ => none)) (m := D.f) Z5
  have F6 := pF_al (e := prow 5 D.f (fun _ => none)) (m := D.f) F5
  have a6 : (xnew σ4 (prow 5 D.f (fun _ => none)) D.f).1 σ4.2.1.1 = some (prow 5 D.f (fun _ => none)) := pnew_at
  have k6 : ∀ {b e}, σ4.1 b = some e → (xnew σ4 (prow 5 D.f (fun _ => none)) D.f).1 b = some e := fun {b e} hb => by
    have := pZ_lt Z5 hb
    rw [xnew_1, if_neg (by omega), hb]
  have s6 := k6 s5
  have x6 : (xnew σ4 (prow 5 D.f (fun _ => none)) D.f).2.1.1 = σ4.2.1.1 + 1 := rfl
  obtain ⟨σ5, e5⟩ : ∃ σ5, σ5 = xnew σ4 (prow 5 D.f (fun _ => none)) D.f := ⟨_, rfl⟩
  rw [← e5] at Z6 F6 a6 s6 x6
  have k6' : ∀ {b e}, σ4.1 b = some e → σ5.1 b = some e := fun {b e} hb => by rw [e5]; exact k6 hb
  have Z7 := pZ_wr Z6 s6 (e' := .inr (12, [.ref τ1.2.1.1, .int D.un, .int D.lv, .int D.sh, .int D.ac, .ref σ4.2.1.1, .null, .int 0, .int 0]))
  have F7 := pF_hi F6 Z6 s6 (Nat.le_refl _) (e' := .inr (12, [.ref τ1.2.1.1, .int D.un, .int D.lv, .int D.sh, .int D.ac, .ref σ4.2.1.1, .null, .int 0, .int 0]))
  have s7 : (xwr σ5 σ.2.1.1 (.inr (12, [.ref τ1.2.1.1, .int D.un, .int D.lv, .int D.sh, .int D.ac, .ref σ4.2.1.1, .null, .int 0, .int 0]))).1 σ.2.1.1 = some (.inr (12, [.ref τ1.2.1.1, .int D.un, .int D.lv, .int D.sh, .int D.ac, .ref σ4.2.1.1, .null, .int 0, .int 0])) := pwr_at
  have a7 : (xwr σ5 σ.2.1.1 (.inr (12, [.ref τ1.2.1.1, .int D.un, .int D.lv, .int D.sh, .int D.ac, .ref σ4.2.1.1, .null, .int 0, .int 0]))).1 σ4.2.1.1 = some (prow 5 D.f (fun _ => none)) := by rw [xwr_1, if_neg (by omega), a6]
  have x7 : (xwr σ5 σ.2.1.1 (.inr (12, [.ref τ1.2.1.1, .int D.un, .int D.lv, .int D.sh, .int D.ac, .ref σ4.2.1.1, .null, .int 0, .int 0]))).2.1.1 = σ5.2.1.1 := rfl
  obtain ⟨σ6, e6⟩ : ∃ σ6, σ6 = xwr σ5 σ.2.1.1 (.inr (12, [.ref τ1.2.1.1, .int D.un, .int D.lv, .int D.sh, .int D.ac, .ref σ4.2.1.1, .null, .int 0, .int 0])) := ⟨_, rfl⟩
  rw [← e6] at Z7 F7 s7 a7 x7
  have k7' : ∀ {b e}, b ≠ σ.2.1.1 → σ5.1 b = some e → σ6.1 b = some e := fun {b e} h1 h2 => by rw [e6, xwr_1, if_neg h1, h2]
  have A7 : pYb σ6 σ σ.2.1.1 σ4.2.1.1 D.f 0 (8 + 1 + 4 * D.n + 1) (30 + D.n + 17 * D.n + D.f) (.inr (12, [.ref τ1.2.1.1, .int D.un, .int D.lv, .int D.sh, .int D.ac, .ref σ4.2.1.1, .null, .int 0, .int 0])) D (fun _ => 0) σ6 :=
    ⟨⟨⟨F7, Z7⟩, fun b e h1 _ => h1⟩, ⟨by omega, s7⟩, ⟨⟨by omega, by omega⟩, fun _ => none, a7, fun q hq => absurd hq (Nat.not_lt_zero _)⟩, fun q hq => absurd hq (Nat.not_lt_zero _), fun p q _ hq => absurd hq (Nat.not_lt_zero _)⟩
  obtain ⟨ω, M2, g7, A8⟩ := l_133b (d := d) S hD Z (by omega) hs9 (by omega) D.f 0 _ _ σ6 _ (Nat.zero_add _) (by omega) A7
  obtain ⟨⟨⟨F8, Z8⟩, kk⟩, ⟨w1, s8⟩, ⟨⟨w2, w3⟩, gF, w4, w5⟩, w6, w7⟩ := A8
  have nx8 := F8.2.2.1
  -- the rest of its numbers
  have Z9 := pZ_wr Z8 s8 (e' := .inr (12, [.ref τ1.2.1.1, .int D.un, .int D.lv, .int D.sh, .int D.ac, .ref σ4.2.1.1, cv, .int dn, .int en]))
  have F9 := pF_hi F8 Z8 s8 (Nat.le_refl _) (e' := .inr (12, [.ref τ1.2.1.1, .int D.un, .int D.lv, .int D.sh, .int D.ac, .ref σ4.2.1.1, cv, .int dn, .int en]))
  have k9 : ∀ {b e}, b ≠ σ.2.1.1 → ω.1 b = some e → (xwr ω σ.2.1.1 (.inr (12, [.ref τ1.2.1.1, .int D.un, .int D.lv, .int D.sh, .int D.ac, .ref σ4.2.1.1, cv, .int dn, .int en]))).1 b = some e := fun {b e} h1 h2 => by rw [xwr_1, if_neg h1, h2]
  have hk : ∀ {b e}, b ≠ σ.2.1.1 → b ≠ σ4.2.1.1 → υ.1 b = some e → (xwr ω σ.2.1.1 (.inr (12, [.ref τ1.2.1.1, .int D.un, .int D.lv, .int D.sh, .int D.ac, .ref σ4.2.1.1, cv, .int dn, .int en]))).1 b = some e := fun {b e} h1 h2 h3 => k9 h1 (kk b e (k7' h1 (k6' (k5' h1 h3))) h2)
  refine ⟨xwr ω σ.2.1.1 (.inr (12, [.ref τ1.2.1.1, .int D.un, .int D.lv, .int D.sh, .int D.ac, .ref σ4.2.1.1, cv, .int dn, .int en])), (τ1.2.1.1, (M, (σ4.2.1.1, (M2, (R.tk, (R.du, R.fm)))))), fun Q => ?_, F9.mono (fun _ _ q => q) (by omega) (by omega), Z9, ?_, ?_⟩
  · have Sn : ∀ {c x τ}, pF pno c x σ τ → xRd τ s = some (.inr (12, [.ref R.lr, .int D.un, .int D.lv, .int D.sh, .int D.ac, .ref R.fr, cv, .int dn, .int en])) := fun {c x τ} F => (S.no Z F).ob
    have o1 := Sn F2
    have l1 : ∃ g : Nat → Option Nat, xRd τ1 R.lr = some (prow 6 D.n g) := by
      obtain ⟨g, h, -⟩ := (S.no Z F2).lrow
      exact ⟨g, h⟩
    obtain ⟨gl1, l1⟩ := l1
    have o4 := Sn F4
    have o4' : ∀ e, xRd (xwr υ σ.2.1.1 e) s = _ := fun e => Sn (pF_hi F4 Z4 s4 (Nat.le_refl _) (e' := e))
    have o5 := Sn F5
    obtain ⟨gf5, l5, -⟩ := (S.no Z F5).frow
    have o8 := Sn F8
    have o8' : ∀ e, xRd (xwr ω σ.2.1.1 e) s = _ := fun e => Sn (pF_hi F8 Z8 s8 (Nat.le_refl _) (e' := e))
    have os1 : xRd σ1 σ.2.1.1 = some (.inr (12, xdef 12)) := by rw [yrd_lt hs9, a1]
    have n1 : ¬ yI D.n < 0 := yI_nneg (by omega)
    have n2 : (yI D.n).toNatClampNeg = D.n := yI_clamp (by omega)
    have n3 : D.n ≤ 100000 := by omega
    have m1 : ¬ yI D.f < 0 := yI_nneg (by omega)
    have m2 : (yI D.f).toNatClampNeg = D.f := yI_clamp (by omega)
    have m3 : D.f ≤ 100000 := by omega
    have ea : Int32.ofNat D.n = yI D.n := rfl
    have eb : Int32.ofNat D.f = yI D.f := rfl
    have r1 : τ1.2.1.1 < 900000 := by omega
    have r4 : σ4.2.1.1 < 900000 := by omega
    have fit : narrow (xtyf 12 6) cv = cv ∧ fits (xtyf 12 6) cv = true := by
      rcases hcv with rfl | ⟨a, rfl⟩
      · exact hn_12_6.mpr trivial
      · exact hp_12_6.mpr trivial
    have q4 := g4 Q
    have q7 := g7 Q
    show G (d + 2) 133 0 [some (.ref s), none, none] [] σ Q ↔ _
    simp only [s_133_0, r0, true_and]
    rw [← e1]
    simp only [s_133_1, s_133_2, s_133_3 hs9, s_133_4, s_133_5, s_133_6, s_133_7, s_133_8, os1, g1 _, o1, l1, n1, n2, n3, ea, r1, hln_r S.lr0 (show 4 ≤ 6 ∧ 6 ≤ 8 by decide), not_false_eq_true, hgf_s, hsel_0, hsel_1, hsel_2, hsel_3, hsel_4, hsel_5, hsel_6, hsel_7, hsel_8, hset_0, hset_1, hset_2, hset_3, hset_4, hset_5, hset_6, hset_7, hset_8, hpf_s, hcl_s, hai_s, hpi_0, hpi_1, hln_0, hln_1, List.length_cons, List.length_nil, xwr_1, xwr_2, xnew_1, xnew_n, xnew_s, xnew_z, Nat.reduceLT, ite_true, and_self, hp_8_0, hp_8_1, hn_8_1, hp_8_2, hn_8_2, hp_9_0, hp_9_1, hp_9_2, hp_9_3, hp_9_4, hp_9_5, hn_9_5, hp_9_6, hn_9_6, hp_9_7, hn_9_7, hp_10_0, hp_10_1, hp_10_2, hn_10_2, hp_10_3, hn_10_3, hp_11_0, hp_12_0, hn_12_0, hp_12_1, hp_12_2, hp_12_3, hp_12_4, hp_12_5, hn_12_5, hp_12_6, hn_12_6, hp_12_7, hp_12_8, hp_13_0, hn_13_0, hp_13_1, hp_13_2, hp_13_3, hp_14_0, hn_14_0, hp_14_1, hp_14_2, hp_14_3, xdef_8, xdef_9, xdef_10, xdef_11, xdef_12, xdef_13, xdef_14, Gk_v, Gk_n, xcat_nil, xcat_i, xcat_r, xcat_l, xcat_d, Nat.zero_le, Nat.reduceAdd, Nat.reduceLeDiff, true_and, and_true, ykl_i, ykl_r, ykl_n, ykl_l]
    have e2' : xnew τ1 (.inl (6, (D.n, .inr (.inr (.inr (.inr (fun _ => none))))))) D.n = σ2 := e2.symm
    rw [e2']
    simp only [s_133_9, s_133_10, s_133_11, s3, hs9, hgf_s, hsel_0, hsel_1, hsel_2, hsel_3, hsel_4, hsel_5, hsel_6, hsel_7, hsel_8, hset_0, hset_1, hset_2, hset_3, hset_4, hset_5, hset_6, hset_7, hset_8, hpf_s, hcl_s, hai_s, hpi_0, hpi_1, hln_0, hln_1, List.length_cons, List.length_nil, xwr_1, xwr_2, xnew_1, xnew_n, xnew_s, xnew_z, Nat.reduceLT, ite_true, and_self, hp_8_0, hp_8_1, hn_8_1, hp_8_2, hn_8_2, hp_9_0, hp_9_1, hp_9_2, hp_9_3, hp_9_4, hp_9_5, hn_9_5, hp_9_6, hn_9_6, hp_9_7, hn_9_7, hp_10_0, hp_10_1, hp_10_2, hn_10_2, hp_10_3, hn_10_3, hp_11_0, hp_12_0, hn_12_0, hp_12_1, hp_12_2, hp_12_3, hp_12_4, hp_12_5, hn_12_5, hp_12_6, hn_12_6, hp_12_7, hp_12_8, hp_13_0, hn_13_0, hp_13_1, hp_13_2, hp_13_3, hp_14_0, hn_14_0, hp_14_1, hp_14_2, hp_14_3, xdef_8, xdef_9, xdef_10, xdef_11, xdef_12, xdef_13, xdef_14, Gk_v, Gk_n, xcat_nil, xcat_i, xcat_r, xcat_l, xcat_d, Nat.zero_le, Nat.reduceAdd, Nat.reduceLeDiff, true_and, and_true, ykl_i, ykl_r, ykl_n, ykl_l]
    have e3' : xwr σ2 σ.2.1.1 (.inr (12, [.ref τ1.2.1.1, .int 1, .int 255, .int 0, .int 0, .ref F0, .null, .int 0, .int 0])) = σ3 := e3.symm
    rw [e3']
    refine q4.trans ?_
    simp only [s_133_28, s_133_29, s_133_30, s_133_31, s_133_32, s_133_33, s_133_34, s_133_35, s_133_36, s_133_37, s_133_38, s_133_39, s_133_40, s_133_41, s_133_42, s_133_43, o4, o4', s4, hs9, pwr_at, pwr_wr, hgf_s, hsel_0, hsel_1, hsel_2, hsel_3, hsel_4, hsel_5, hsel_6, hsel_7, hsel_8, hset_0, hset_1, hset_2, hset_3, hset_4, hset_5, hset_6, hset_7, hset_8, hpf_s, hcl_s, hai_s, hpi_0, hpi_1, hln_0, hln_1, List.length_cons, List.length_nil, xwr_1, xwr_2, xnew_1, xnew_n, xnew_s, xnew_z, Nat.reduceLT, ite_true, and_self, hp_8_0, hp_8_1, hn_8_1, hp_8_2, hn_8_2, hp_9_0, hp_9_1, hp_9_2, hp_9_3, hp_9_4, hp_9_5, hn_9_5, hp_9_6, hn_9_6, hp_9_7, hn_9_7, hp_10_0, hp_10_1, hp_10_2, hn_10_2, hp_10_3, hn_10_3, hp_11_0, hp_12_0, hn_12_0, hp_12_1, hp_12_2, hp_12_3, hp_12_4, hp_12_5, hn_12_5, hp_12_6, hn_12_6, hp_12_7, hp_12_8, hp_13_0, hn_13_0, hp_13_1, hp_13_2, hp_13_3, hp_14_0, hn_14_0, hp_14_1, hp_14_2, hp_14_3, xdef_8, xdef_9, xdef_10, xdef_11, xdef_12, xdef_13, xdef_14, Gk_v, Gk_n, xcat_nil, xcat_i, xcat_r, xcat_l, xcat_d, Nat.zero_le, Nat.reduceAdd, Nat.reduceLeDiff, true_and, and_true, ykl_i, ykl_r, ykl_n, ykl_l]
    rw [← e4]
    simp only [s_133_44, s_133_45, s_133_46, s_133_47, s_133_48, o5, l5, m1, m2, m3, eb, r4, hln_r S.fr0 (show 4 ≤ 5 ∧ 5 ≤ 8 by decide), not_false_eq_true, hgf_s, hsel_0, hsel_1, hsel_2, hsel_3, hsel_4, hsel_5, hsel_6, hsel_7, hsel_8, hset_0, hset_1, hset_2, hset_3, hset_4, hset_5, hset_6, hset_7, hset_8, hpf_s, hcl_s, hai_s, hpi_0, hpi_1, hln_0, hln_1, List.length_cons, List.length_nil, xwr_1, xwr_2, xnew_1, xnew_n, xnew_s, xnew_z, Nat.reduceLT, ite_true, and_self, hp_8_0, hp_8_1, hn_8_1, hp_8_2, hn_8_2, hp_9_0, hp_9_1, hp_9_2, hp_9_3, hp_9_4, hp_9_5, hn_9_5, hp_9_6, hn_9_6, hp_9_7, hn_9_7, hp_10_0, hp_10_1, hp_10_2, hn_10_2, hp_10_3, hn_10_3, hp_11_0, hp_12_0, hn_12_0, hp_12_1, hp_12_2, hp_12_3, hp_12_4, hp_12_5, hn_12_5, hp_12_6, hn_12_6, hp_12_7, hp_12_8, hp_13_0, hn_13_0, hp_13_1, hp_13_2, hp_13_3, hp_14_0, hn_14_0, hp_14_1, hp_14_2, hp_14_3, xdef_8, xdef_9, xdef_10, xdef_11, xdef_12, xdef_13, xdef_14, Gk_v, Gk_n, xcat_nil, xcat_i, xcat_r, xcat_l, xcat_d, Nat.zero_le, Nat.reduceAdd, Nat.reduceLeDiff, true_and, and_true, ykl_i, ykl_r, ykl_n, ykl_l]
    have e5' : xnew σ4 (.inl (5, (D.f, .inr (.inr (.inr (.inr (fun _ => none))))))) D.f = σ5 := e5.symm
    rw [e5']
    simp only [s_133_49, s_133_50, s_133_51, s6, hs9, hgf_s, hsel_0, hsel_1, hsel_2, hsel_3, hsel_4, hsel_5, hsel_6, hsel_7, hsel_8, hset_0, hset_1, hset_2, hset_3, hset_4, hset_5, hset_6, hset_7, hset_8, hpf_s, hcl_s, hai_s, hpi_0, hpi_1, hln_0, hln_1, List.length_cons, List.length_nil, xwr_1, xwr_2, xnew_1, xnew_n, xnew_s, xnew_z, Nat.reduceLT, ite_true, and_self, hp_8_0, hp_8_1, hn_8_1, hp_8_2, hn_8_2, hp_9_0, hp_9_1, hp_9_2, hp_9_3, hp_9_4, hp_9_5, hn_9_5, hp_9_6, hn_9_6, hp_9_7, hn_9_7, hp_10_0, hp_10_1, hp_10_2, hn_10_2, hp_10_3, hn_10_3, hp_11_0, hp_12_0, hn_12_0, hp_12_1, hp_12_2, hp_12_3, hp_12_4, hp_12_5, hn_12_5, hp_12_6, hn_12_6, hp_12_7, hp_12_8, hp_13_0, hn_13_0, hp_13_1, hp_13_2, hp_13_3, hp_14_0, hn_14_0, hp_14_1, hp_14_2, hp_14_3, xdef_8, xdef_9, xdef_10, xdef_11, xdef_12, xdef_13, xdef_14, Gk_v, Gk_n, xcat_nil, xcat_i, xcat_r, xcat_l, xcat_d, Nat.zero_le, Nat.reduceAdd, Nat.reduceLeDiff, true_and, and_true, ykl_i, ykl_r, ykl_n, ykl_l]
    rw [← e6]
    refine q7.trans ?_
    simp only [s_133_69, s_133_70, s_133_71, s_133_72, s_133_73, s_133_74, s_133_75, s_133_76, s_133_77, s_133_78, s_133_79, s_133_80, s_133_81, s_133_82, o8, o8', s8, hs9, fit, pwr_at, pwr_wr, hgf_s, hsel_0, hsel_1, hsel_2, hsel_3, hsel_4, hsel_5, hsel_6, hsel_7, hsel_8, hset_0, hset_1, hset_2, hset_3, hset_4, hset_5, hset_6, hset_7, hset_8, hpf_s, hcl_s, hai_s, hpi_0, hpi_1, hln_0, hln_1, List.length_cons, List.length_nil, xwr_1, xwr_2, xnew_1, xnew_n, xnew_s, xnew_z, Nat.reduceLT, ite_true, and_self, hp_8_0, hp_8_1, hn_8_1, hp_8_2, hn_8_2, hp_9_0, hp_9_1, hp_9_2, hp_9_3, hp_9_4, hp_9_5, hn_9_5, hp_9_6, hn_9_6, hp_9_7, hn_9_7, hp_10_0, hp_10_1, hp_10_2, hn_10_2, hp_10_3, hn_10_3, hp_11_0, hp_12_0, hn_12_0, hp_12_1, hp_12_2, hp_12_3, hp_12_4, hp_12_5, hn_12_5, hp_12_6, hn_12_6, hp_12_7, hp_12_8, hp_13_0, hn_13_0, hp_13_1, hp_13_2, hp_13_3, hp_14_0, hn_14_0, hp_14_1, hp_14_2, hp_14_3, xdef_8, xdef_9, xdef_10, xdef_11, xdef_12, xdef_13, xdef_14, Gk_v, Gk_n, xcat_nil, xcat_i, xcat_r, xcat_l, xcat_d, Nat.zero_le, Nat.reduceAdd, Nat.reduceLeDiff, true_and, and_true, ykl_i, ykl_r, ykl_n, ykl_l]
  · have Sf := S.no Z F9
    refine ⟨⟨hs9, pwr_at⟩, ⟨by show τ1.2.1.1 < 1000000; omega, gL, hk (by show τ1.2.1.1 ≠ _; omega) (by show τ1.2.1.1 ≠ _; omega) y4, y5⟩, fun p hp => ⟨by show M p < 1000000; have := (y6 p hp).1.2; omega, hk (by have := (y6 p hp).1.1; show M p ≠ _; omega) (by have := (y6 p hp).1.2; show M p ≠ _; omega) (y6 p hp).2⟩, fun p hp => Sf.2.2.2.1 p hp, ⟨by show σ4.2.1.1 < 1000000; omega, gF, k9 (by show σ4.2.1.1 ≠ _; omega) w4, w5⟩, fun q hq => ?_⟩
    obtain ⟨⟨h1, h2⟩, k, h3, h4⟩ := w6 q hq
    exact ⟨by show M2 q < 1000000; omega, k, k9 (by show M2 q ≠ _; omega) h3, h4⟩
  · have xe : (xwr ω σ.2.1.1 (.inr (12, [.ref τ1.2.1.1, .int D.un, .int D.lv, .int D.sh, .int D.ac, .ref σ4.2.1.1, cv, .int dn, .int en]))).2.1.1 = ω.2.1.1 := rfl
    refine ⟨⟨Nat.le_refl _, by rw [xe]; omega⟩, ⟨by show σ.2.1.1 ≤ τ1.2.1.1; omega, by rw [xe]; show τ1.2.1.1 < _; omega⟩, ⟨by show σ.2.1.1 ≤ σ4.2.1.1; omega, by rw [xe]; show σ4.2.1.1 < _; omega⟩, ⟨fun p hp => ?_, fun q hq => ?_⟩, fun p q hp hq h => ?_, fun p q hp hq h => ?_⟩
    · obtain ⟨⟨h1, h2⟩, -⟩ := y6 p hp
      exact ⟨by show _ ≤ M p; omega, by rw [xe]; show M p < _; omega⟩
    · obtain ⟨⟨h1, h2⟩, -⟩ := w6 q hq
      exact ⟨by show _ ≤ M2 q; omega, by rw [xe]; show M2 q < _; omega⟩
    · have h' : M p = M q := h
      rcases Nat.lt_trichotomy p q with g | g | g
      · have := y7 p q g hq
        omega
      · exact g
      · have := y7 q p g hp
        omega
    · have h' : M2 p = M2 q := h
      rcases Nat.lt_trichotomy p q with g | g | g
      · have := w7 p q g hq
        omega
      · exact g
      · have := w7 q p g hp
        omega
end

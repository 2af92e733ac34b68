/-! ===== lamps copied; strips as they are made ===== -/
section
variable {d : Nat} {σ τ : xS} {D : yD} {s l r : Nat} {R : pR} {cv : Value} {dn en : Int32}
theorem m_124 (hl : l < 1000000) {k pd fr og : Int32} {bp : Bool} {t u f : Nat} (h : σ.1 l = some (plamp k pd (yb bp) fr og t u f)) (ht : t < 1000000) (hu : u < 1000000) (hf : f < 1000000) (Z : pZ σ) (hr : σ.2.1.1 + 4 < 900000) : ∃ τ, Ra (d + 1) 124 [.ref l] σ (.inl (some (.ref σ.2.1.1))) τ ∧ (pF pno 4 17 σ τ ∧ (pZ τ ∧ (τ.1 σ.2.1.1 = some (plamp k pd (yb bp) fr og t u f) ∧ σ.2.1.1 < τ.2.1.1))) := by
  have hln := pZ_lt Z h
  have Z1 := pZ_new (e := .inr (9, xdef 9)) (m := 8) Z
  have a1 : (xnew σ (.inr (9, xdef 9)) 8).1 σ.2.1.1 = some (.inr (9, xdef 9)) := pnew_at
  have b1 : (xnew σ (.inr (9, xdef 9)) 8).1 l = some (plamp k pd (yb bp) fr og t u f) := by rw [xnew_1, if_neg (by omega), h]
  have F1 : pF pno 1 8 σ (xnew σ (.inr (9, xdef 9)) 8) := pF_new
  have x1 : (xnew σ (.inr (9, xdef 9)) 8).2.1.1 = σ.2.1.1 + 1 := rfl
  obtain ⟨σ1, e1⟩ : ∃ σ1, σ1 = xnew σ (.inr (9, xdef 9)) 8 := ⟨_, rfl⟩
  rw [← e1] at Z1 a1 b1 F1 x1
  obtain ⟨τ1, t', u', f', g1, F2, Z2, a2, -⟩ := m_123 (d := d) (by omega) a1 Z1 (by omega)
  have b2 : τ1.1 l = some (plamp k pd (yb bp) fr og t u f) := pF_keep Z1 F2 b1 (by omega)
  have F3 : pF pno 4 17 σ τ1 := by
    refine (pF.trans F1 F2 (P' := fun b => b = σ.2.1.1) (fun b _ q => q.elim (fun q => q.elim) id)).1 |> fun _ => ?_
    have F4 := pF.trans F1 F2 (P' := fun b => b = σ.2.1.1) (fun b _ q => q.elim (fun q => q.elim) id)
    exact F4.mono (fun b hb q => by omega) (by omega) (by omega)
  have nx := F2.2.2.1.1
  have Z4 := pZ_wr Z2 a2 (e' := plamp k pd (yb bp) fr og t u f)
  have F4 : pF pno 4 17 σ (xwr τ1 σ.2.1.1 (plamp k pd (yb bp) fr og t u f)) := pF_hi F3 Z2 a2 (Nat.le_refl _)
  refine ⟨xwr τ1 σ.2.1.1 (plamp k pd (yb bp) fr og t u f), fun Q => ?_, F4, Z4, pwr_at, by show σ.2.1.1 < τ1.2.1.1; omega⟩
  have r1 : σ.2.1.1 < 900000 := by omega
  have r2 : σ.2.1.1 < 1000000 := by omega
  have o1 : xRd σ1 σ.2.1.1 = some (.inr (9, xdef 9)) := by rw [yrd_lt r2, a1]
  have o2 : ∀ e, xRd (xwr τ1 σ.2.1.1 e) l = some (plamp k pd (yb bp) fr og t u f) := fun e => by rw [yrd_lt hl, xwr_1, if_neg (by omega), b2]
  have o3 : xRd τ1 l = some (plamp k pd (yb bp) fr og t u f) := by rw [yrd_lt hl, b2]
  show G (d + 1) 124 0 [some (.ref l), none] [] σ Q ↔ _
  simp only [s_124_0, r1, true_and]
  rw [← e1]
  simp only [s_124_1, s_124_1i, s_124_2, s_124_4, s_124_5, s_124_6, s_124_7, s_124_8, s_124_9, s_124_10, s_124_11, s_124_12, s_124_13, s_124_14, s_124_15, s_124_16, s_124_17, s_124_18, s_124_19, s_124_20, s_124_21, s_124_22, s_124_23, s_124_24, s_124_25, s_124_26, s_124_27, s_124_28, s_124_29, s_124_30, s_124_31, s_124_32, s_124_33, s_124_34, s_124_35, s_124_36, s_124_37, s_124_3 r2, o1, o2, o3, g1 _, a2, r2, hl, ht, hu, hf, plamp, pwr_at, pwr_wr, ybo_b, hgf_s, hsel_0, hsel_1, hsel_2, hsel_3, hsel_4, hsel_5, hsel_6, hsel_7, hsel_8, hset_0, hset_1, hset_2, hset_3, hset_4, hset_5, hset_6, hset_7, hset_8, hpf_s, hcl_s, hai_s, hpi_0, hpi_1, hln_0, hln_1, List.length_cons, List.length_nil, xwr_1, xwr_2, xnew_1, xnew_n, xnew_s, xnew_z, Nat.reduceLT, ite_true, and_self, hp_8_0, hp_8_1, hn_8_1, hp_8_2, hn_8_2, hp_9_0, hp_9_1, hp_9_2, hp_9_3, hp_9_4, hp_9_5, hn_9_5, hp_9_6, hn_9_6, hp_9_7, hn_9_7, hp_10_0, hp_10_1, hp_10_2, hn_10_2, hp_10_3, hn_10_3, hp_11_0, hp_12_0, hn_12_0, hp_12_1, hp_12_2, hp_12_3, hp_12_4, hp_12_5, hn_12_5, hp_12_6, hn_12_6, hp_12_7, hp_12_8, hp_13_0, hn_13_0, hp_13_1, hp_13_2, hp_13_3, hp_14_0, hn_14_0, hp_14_1, hp_14_2, hp_14_3, xdef_8, xdef_9, xdef_10, xdef_11, xdef_12, xdef_13, xdef_14, Gk_v, Gk_n, xcat_nil, xcat_i, xcat_r, xcat_l, xcat_d, Nat.zero_le, Nat.reduceAdd, Nat.reduceLeDiff, true_and, and_true, ykl_i, ykl_r, ykl_n, ykl_l]
/-- a strip as it is made -/
abbrev pD0 (D : yD) : Prop := ((D.n = 1 ∧ D.f = 1) ∧ ((D.un = 1 ∧ D.lv = 255) ∧ (D.sh = 0 ∧ D.ac = 0))) ∧ (((D.kd 0 = 0 ∧ D.pd 0 = 0) ∧ ((D.bp 0 = false ∧ D.fr 0 = 0) ∧ D.og 0 = -1)) ∧ ((D.tk 0 = 0 ∧ (D.du 0 = 0 ∧ D.fm 0 = 0)) ∧ (D.fp 0 = 0 ∧ D.fl 0 = 9999)))
abbrev pN12 (a b : Value) (u l : Int32) : xE := .inr (12, [a, .int u, .int l, .int 0, .int 0, b, .null, .int 0, .int 0])
theorem m_132 (hD : pD0 D) (hs : s < 1000000) (h : σ.1 s = some (.inr (12, xdef 12))) (Z : pZ σ) (hr : σ.2.1.1 + 7 < 900000) : ∃ τ R, Ra (d + 1) 132 [.ref s] σ (.inl none) τ ∧ (pF (fun b => b = s) 7 21 σ τ ∧ (pZ τ ∧ (pS τ s R D .null 0 0 ∧ ((pin σ.2.1.1 τ.2.1.1 R.lr ∧ pin σ.2.1.1 τ.2.1.1 R.fr) ∧ (pin σ.2.1.1 τ.2.1.1 (R.lm 0) ∧ pin σ.2.1.1 τ.2.1.1 (R.fg 0)))))) := by
  have hsn := pZ_lt Z h
  obtain ⟨⟨⟨d1, d2⟩, ⟨d3, d4⟩, d5, d6⟩, ⟨⟨d7, d8⟩, ⟨d9, d10⟩, d11⟩, ⟨d12, d13, d14⟩, d15, d16⟩ := hD
  have r1 : σ.2.1.1 < 900000 := by omega
  have r1' : σ.2.1.1 < 1000000 := by omega
  have n1 : ¬ (1 : Int32) < 0 := by decide
  have n2 : (1 : Nat) ≤ 100000 := by decide
  have n3 : ¬ (2 : Int32) < 0 := by decide
  have n4 : (2 : Nat) ≤ 100000 := by decide
  have i10 : yix 0 1 := by unfold yix; decide
  have c1 : (1 : Int32).toNatClampNeg = 1 := rfl
  have c2 : (2 : Int32).toNatClampNeg = 2 := rfl
  -- the row of lamps
  have Z1 := pZ_new (e := prow 6 1 (fun _ => none)) (m := 1) Z
  have F1 : pF (fun b => b = s) 1 1 σ (xnew σ (prow 6 1 (fun _ => none)) 1) := pF_new
  have a1 : (xnew σ (prow 6 1 (fun _ => none)) 1).1 σ.2.1.1 = some (prow 6 1 (fun _ => none)) := pnew_at
  have s1 : (xnew σ (prow 6 1 (fun _ => none)) 1).1 s = some (.inr (12, xdef 12)) := by rw [xnew_1, if_neg (by omega), h]
  have x1 : (xnew σ (prow 6 1 (fun _ => none)) 1).2.1.1 = σ.2.1.1 + 1 := rfl
  obtain ⟨σ1, e1⟩ : ∃ σ1, σ1 = xnew σ (prow 6 1 (fun _ => none)) 1 := ⟨_, rfl⟩
  rw [← e1] at Z1 F1 a1 s1 x1
  -- a lamp
  have Z2 := pZ_new (e := .inr (9, xdef 9)) (m := 8) Z1
  have F2 : pF (fun b => b = s) (1 + 1) (1 + 8) σ (xnew σ1 (.inr (9, xdef 9)) 8) := pF_al F1
  have a2 : (xnew σ1 (.inr (9, xdef 9)) 8).1 σ.2.1.1 = some (prow 6 1 (fun _ => none)) := by rw [xnew_1, if_neg (by omega), a1]
  have s2 : (xnew σ1 (.inr (9, xdef 9)) 8).1 s = some (.inr (12, xdef 12)) := by rw [xnew_1, if_neg (by omega), s1]
  have l2 : (xnew σ1 (.inr (9, xdef 9)) 8).1 σ1.2.1.1 = some (.inr (9, xdef 9)) := pnew_at
  have x2 : (xnew σ1 (.inr (9, xdef 9)) 8).2.1.1 = σ1.2.1.1 + 1 := rfl
  obtain ⟨σ2, e2⟩ : ∃ σ2, σ2 = xnew σ1 (.inr (9, xdef 9)) 8 := ⟨_, rfl⟩
  rw [← e2] at Z2 F2 a2 s2 l2 x2
  obtain ⟨σ3, t, u, f, g3, F3, Z3, l3, ⟨-, t3⟩, u3, f3⟩ := m_123 (d := d) (l := σ1.2.1.1) (by omega) l2 Z2 (by omega)
  have a3 := pF_keep Z2 F3 a2 (by omega)
  have s3 := pF_keep Z2 F3 s2 (by omega)
  have nx3 := F3.2.2.1
  have F3' : pF (fun b => b = s) (1 + 1 + 3) (1 + 8 + 9) σ σ3 := pF.trans F2 F3 (fun b hb q => q.elim id (fun q => by omega))
  -- it goes into the row
  have a4 : (xwr σ3 σ.2.1.1 (prow 6 1 (va_up (fun _ => none) 0 (some σ1.2.1.1)))).1 σ.2.1.1 = some (prow 6 1 (va_up (fun _ => none) 0 (some σ1.2.1.1))) := pwr_at
  have Z4 := pZ_wr Z3 a3 (e' := prow 6 1 (va_up (fun _ => none) 0 (some σ1.2.1.1)))
  have F4 : pF (fun b => b = s) (1 + 1 + 3) (1 + 8 + 9) σ (xwr σ3 σ.2.1.1 (prow 6 1 (va_up (fun _ => none) 0 (some σ1.2.1.1)))) := pF_hi F3' Z3 a3 (Nat.le_refl _)
  have s4 : (xwr σ3 σ.2.1.1 (prow 6 1 (va_up (fun _ => none) 0 (some σ1.2.1.1)))).1 s = some (.inr (12, xdef 12)) := by rw [xwr_1, if_neg (by omega), s3]
  have l4 : (xwr σ3 σ.2.1.1 (prow 6 1 (va_up (fun _ => none) 0 (some σ1.2.1.1)))).1 σ1.2.1.1 = some (plamp 0 0 0 0 (-1) t u f) := by rw [xwr_1, if_neg (by omega), l3]
  have kc : ∀ {b : Nat} {y : Int32}, pC σ3 b y → pC (xwr σ3 σ.2.1.1 (prow 6 1 (va_up (fun _ => none) 0 (some σ1.2.1.1)))) b y := fun {b y} ⟨h0, c, h3, h4⟩ => ⟨h0, c, by rw [xwr_1, if_neg (fun q => by rw [q, a3] at h3; simp [prow] at h3)]; exact h3, h4⟩
  have t4 := kc t3
  have u4 := kc u3
  have f4 := kc f3
  have x4 : (xwr σ3 σ.2.1.1 (prow 6 1 (va_up (fun _ => none) 0 (some σ1.2.1.1)))).2.1.1 = σ3.2.1.1 := rfl
  obtain ⟨σ4, e4⟩ : ∃ σ4, σ4 = xwr σ3 σ.2.1.1 (prow 6 1 (va_up (fun _ => none) 0 (some σ1.2.1.1))) := ⟨_, rfl⟩
  rw [← e4] at a4 Z4 F4 s4 l4 t4 u4 f4 x4
  -- the strip's own cell
  have a5 : (xwr σ4 s (pN12 (.ref σ.2.1.1) .null 1 255)).1 σ.2.1.1 = some (prow 6 1 (va_up (fun _ => none) 0 (some σ1.2.1.1))) := by rw [xwr_1, if_neg (by omega), a4]
  have l5 : (xwr σ4 s (pN12 (.ref σ.2.1.1) .null 1 255)).1 σ1.2.1.1 = some (plamp 0 0 0 0 (-1) t u f) := by rw [xwr_1, if_neg (by omega), l4]
  have s5 : (xwr σ4 s (pN12 (.ref σ.2.1.1) .null 1 255)).1 s = some (pN12 (.ref σ.2.1.1) .null 1 255) := pwr_at
  have Z5 := pZ_wr Z4 s4 (e' := pN12 (.ref σ.2.1.1) .null 1 255)
  have F5 : pF (fun b => b = s) (1 + 1 + 3) (1 + 8 + 9) σ (xwr σ4 s (pN12 (.ref σ.2.1.1) .null 1 255)) := by
    have nx := F4.2.2.1.1
    have q := pF.trans (P' := fun b => b = s) F4 (pF_wr (P := fun b => b = s) (c := 0) (s := 0) (σ := σ4) (a := s) (e := pN12 (.ref σ.2.1.1) .null 1 255) (by omega) rfl) (fun _ _ q => q.elim id id)
    exact q
  have kc5 : ∀ {b : Nat} {y : Int32}, pC σ4 b y → pC (xwr σ4 s (pN12 (.ref σ.2.1.1) .null 1 255)) b y := fun {b y} ⟨h0, c, h3, h4⟩ => ⟨h0, c, by rw [xwr_1, if_neg (fun q => by rw [q, s4] at h3; simp at h3)]; exact h3, h4⟩
  have t5 := kc5 t4
  have u5 := kc5 u4
  have f5 := kc5 f4
  have x5 : (xwr σ4 s (pN12 (.ref σ.2.1.1) .null 1 255)).2.1.1 = σ4.2.1.1 := rfl
  obtain ⟨σ5, e5⟩ : ∃ σ5, σ5 = xwr σ4 s (pN12 (.ref σ.2.1.1) .null 1 255) := ⟨_, rfl⟩
  rw [← e5] at a5 l5 s5 Z5 F5 t5 u5 f5 x5
  -- the feeds
  have Z6 := pZ_new (e := prow 5 1 (fun _ => none)) (m := 1) Z5
  have F6 : pF (fun b => b = s) (1 + 1 + 3 + 1) (1 + 8 + 9 + 1) σ (xnew σ5 (prow 5 1 (fun _ => none)) 1) := pF_al F5
  have q6 : (xnew σ5 (prow 5 1 (fun _ => none)) 1).1 σ5.2.1.1 = some (prow 5 1 (fun _ => none)) := pnew_at
  have k6 : ∀ {b e}, σ5.1 b = some e → (xnew σ5 (prow 5 1 (fun _ => none)) 1).1 b = some e := fun {b e} hb => by
    have := pZ_lt Z5 hb
    rw [xnew_1, if_neg (by omega), hb]
  have a6 := k6 a5
  have l6 := k6 l5
  have s6 := k6 s5
  have kc6 : ∀ {b : Nat} {y : Int32}, pC σ5 b y → pC (xnew σ5 (prow 5 1 (fun _ => none)) 1) b y := fun {b y} ⟨h0, c, h3, h4⟩ => ⟨h0, c, k6 h3, h4⟩
  have t6 := kc6 t5
  have u6 := kc6 u5
  have f6 := kc6 f5
  have x6 : (xnew σ5 (prow 5 1 (fun _ => none)) 1).2.1.1 = σ5.2.1.1 + 1 := rfl
  obtain ⟨σ6, e6⟩ : ∃ σ6, σ6 = xnew σ5 (prow 5 1 (fun _ => none)) 1 := ⟨_, rfl⟩
  rw [← e6] at Z6 F6 q6 a6 l6 s6 t6 u6 f6 x6
  have Z7 := pZ_new (e := .inl (0, (2, .inl (upd (upd (fun _ => 0) 0 0) 1 9999)))) (m := 2) Z6
  have F7 : pF (fun b => b = s) (1 + 1 + 3 + 1 + 1) (1 + 8 + 9 + 1 + 2) σ (xnew σ6 (.inl (0, (2, .inl (upd (upd (fun _ => 0) 0 0) 1 9999)))) 2) := pF_al F6
  have k7 : ∀ {b e}, σ6.1 b = some e → (xnew σ6 (.inl (0, (2, .inl (upd (upd (fun _ => 0) 0 0) 1 9999)))) 2).1 b = some e := fun {b e} hb => by
    have := pZ_lt Z6 hb
    rw [xnew_1, if_neg (by omega), hb]
  have v7 : (xnew σ6 (.inl (0, (2, .inl (upd (upd (fun _ => 0) 0 0) 1 9999)))) 2).1 σ6.2.1.1 = some (.inl (0, (2, .inl (upd (upd (fun _ => 0) 0 0) 1 9999)))) := pnew_at
  have a7 := k7 a6
  have l7 := k7 l6
  have s7 := k7 s6
  have q7 := k7 q6
  have kc7 : ∀ {b : Nat} {y : Int32}, pC σ6 b y → pC (xnew σ6 (.inl (0, (2, .inl (upd (upd (fun _ => 0) 0 0) 1 9999)))) 2) b y := fun {b y} ⟨h0, c, h3, h4⟩ => ⟨h0, c, k7 h3, h4⟩
  have t7 := kc7 t6
  have u7 := kc7 u6
  have f7 := kc7 f6
  have x7 : (xnew σ6 (.inl (0, (2, .inl (upd (upd (fun _ => 0) 0 0) 1 9999)))) 2).2.1.1 = σ6.2.1.1 + 1 := rfl
  obtain ⟨σ7, e7⟩ : ∃ σ7, σ7 = xnew σ6 (.inl (0, (2, .inl (upd (upd (fun _ => 0) 0 0) 1 9999)))) 2 := ⟨_, rfl⟩
  rw [← e7] at Z7 F7 v7 a7 l7 s7 q7 t7 u7 f7 x7
  have Z8 := pZ_wr Z7 q7 (e' := prow 5 1 (va_up (fun _ => none) 0 (some σ6.2.1.1)))
  have F8 : pF (fun b => b = s) (1 + 1 + 3 + 1 + 1) (1 + 8 + 9 + 1 + 2) σ (xwr σ7 σ5.2.1.1 (prow 5 1 (va_up (fun _ => none) 0 (some σ6.2.1.1)))) := pF_hi F7 Z7 q7 (by omega)
  have k8 : ∀ {b e}, b ≠ σ5.2.1.1 → σ7.1 b = some e → (xwr σ7 σ5.2.1.1 (prow 5 1 (va_up (fun _ => none) 0 (some σ6.2.1.1)))).1 b = some e := fun {b e} hn hb => by rw [xwr_1, if_neg hn, hb]
  have a8 := k8 (by omega) a7
  have l8 := k8 (by omega) l7
  have s8 := k8 (by omega) s7
  have v8 := k8 (by omega) v7
  have q8 : (xwr σ7 σ5.2.1.1 (prow 5 1 (va_up (fun _ => none) 0 (some σ6.2.1.1)))).1 σ5.2.1.1 = some (prow 5 1 (va_up (fun _ => none) 0 (some σ6.2.1.1))) := pwr_at
  have kc8 : ∀ {b : Nat} {y : Int32}, pC σ7 b y → pC (xwr σ7 σ5.2.1.1 (prow 5 1 (va_up (fun _ => none) 0 (some σ6.2.1.1)))) b y := fun {b y} ⟨h0, c, h3, h4⟩ => ⟨h0, c, k8 (fun q => by rw [q, q7] at h3; simp [prow] at h3) h3, h4⟩
  have t8 := kc8 t7
  have u8 := kc8 u7
  have f8 := kc8 f7
  have x8 : (xwr σ7 σ5.2.1.1 (prow 5 1 (va_up (fun _ => none) 0 (some σ6.2.1.1)))).2.1.1 = σ7.2.1.1 := rfl
  obtain ⟨σ8, e8⟩ : ∃ σ8, σ8 = xwr σ7 σ5.2.1.1 (prow 5 1 (va_up (fun _ => none) 0 (some σ6.2.1.1))) := ⟨_, rfl⟩
  rw [← e8] at Z8 F8 a8 l8 s8 v8 q8 t8 u8 f8 x8
  -- the strip's own cell again
  have Z9 := pZ_wr Z8 s8 (e' := pN12 (.ref σ.2.1.1) (.ref σ5.2.1.1) 1 255)
  have F9 : pF (fun b => b = s) (1 + 1 + 3 + 1 + 1) (1 + 8 + 9 + 1 + 2) σ (xwr σ8 s (pN12 (.ref σ.2.1.1) (.ref σ5.2.1.1) 1 255)) := by
    have nx := F8.2.2.1.1
    have q := pF.trans (P' := fun b => b = s) F8 (pF_wr (P := fun b => b = s) (c := 0) (s := 0) (σ := σ8) (a := s) (e := pN12 (.ref σ.2.1.1) (.ref σ5.2.1.1) 1 255) (by omega) rfl) (fun _ _ q => q.elim id id)
    exact q
  have k9 : ∀ {b e}, b ≠ s → σ8.1 b = some e → (xwr σ8 s (pN12 (.ref σ.2.1.1) (.ref σ5.2.1.1) 1 255)).1 b = some e := fun {b e} hn hb => by rw [xwr_1, if_neg hn, hb]
  have a9 := k9 (by omega) a8
  have l9 := k9 (by omega) l8
  have v9 := k9 (by omega) v8
  have q9 := k9 (by omega) q8
  have s9 : (xwr σ8 s (pN12 (.ref σ.2.1.1) (.ref σ5.2.1.1) 1 255)).1 s = some (pN12 (.ref σ.2.1.1) (.ref σ5.2.1.1) 1 255) := pwr_at
  have kc9 : ∀ {b : Nat} {y : Int32}, pC σ8 b y → pC (xwr σ8 s (pN12 (.ref σ.2.1.1) (.ref σ5.2.1.1) 1 255)) b y := fun {b y} ⟨h0, c, h3, h4⟩ => ⟨h0, c, k9 (fun q => by rw [q, s8] at h3; simp at h3) h3, h4⟩
  have t9 := kc9 t8
  have u9 := kc9 u8
  have f9 := kc9 f8
  have x9 : (xwr σ8 s (pN12 (.ref σ.2.1.1) (.ref σ5.2.1.1) 1 255)).2.1.1 = σ8.2.1.1 := rfl
  refine ⟨xwr σ8 s (pN12 (.ref σ.2.1.1) (.ref σ5.2.1.1) 1 255), (σ.2.1.1, ((fun _ => σ1.2.1.1), (σ5.2.1.1, ((fun _ => σ6.2.1.1), ((fun _ => t), ((fun _ => u), fun _ => f)))))), fun Q => ?_, F9.mono (fun _ _ q => q) (by omega) (by omega), Z9, ?_, ⟨⟨Nat.le_refl _, by show σ.2.1.1 < σ8.2.1.1; omega⟩, by show σ.2.1.1 ≤ σ5.2.1.1; omega, by show σ5.2.1.1 < _; omega⟩, ⟨by show σ.2.1.1 ≤ σ1.2.1.1; omega, by show σ1.2.1.1 < _; omega⟩, by show σ.2.1.1 ≤ σ6.2.1.1; omega, by show σ6.2.1.1 < _; omega⟩
  · have r2 : σ1.2.1.1 < 900000 := by omega
    have r2' : σ1.2.1.1 < 1000000 := by omega
    have r5 : σ5.2.1.1 < 900000 := by omega
    have r5' : σ5.2.1.1 < 1000000 := by omega
    have r6 : σ6.2.1.1 < 900000 := by omega
    have r6' : σ6.2.1.1 < 1000000 := by omega
    have o2 : xRd σ2 σ1.2.1.1 = some (.inr (9, xdef 9)) := by rw [yrd_lt r2', l2]
    show G (d + 1) 132 0 [some (.ref s)] [] σ Q ↔ _
    simp only [s_132_0, s_132_1, s_132_2, s_132_3, s_132_4, s_132_5, s_132_5i, s_132_6, hs, n1, n2, c1, r1, not_false_eq_true, hgf_s, hsel_0, hsel_1, hsel_2, hsel_3, hsel_4, hsel_5, hsel_6, hsel_7, hsel_8, hset_0, hset_1, hset_2, hset_3, hset_4, hset_5, hset_6, hset_7, hset_8, hpf_s, hcl_s, hai_s, hpi_0, hpi_1, hln_0, hln_1, List.length_cons, List.length_nil, xwr_1, xwr_2, xnew_1, xnew_n, xnew_s, xnew_z, Nat.reduceLT, ite_true, and_self, hp_8_0, hp_8_1, hn_8_1, hp_8_2, hn_8_2, hp_9_0, hp_9_1, hp_9_2, hp_9_3, hp_9_4, hp_9_5, hn_9_5, hp_9_6, hn_9_6, hp_9_7, hn_9_7, hp_10_0, hp_10_1, hp_10_2, hn_10_2, hp_10_3, hn_10_3, hp_11_0, hp_12_0, hn_12_0, hp_12_1, hp_12_2, hp_12_3, hp_12_4, hp_12_5, hn_12_5, hp_12_6, hn_12_6, hp_12_7, hp_12_8, hp_13_0, hn_13_0, hp_13_1, hp_13_2, hp_13_3, hp_14_0, hn_14_0, hp_14_1, hp_14_2, hp_14_3, xdef_8, xdef_9, xdef_10, xdef_11, xdef_12, xdef_13, xdef_14, Gk_v, Gk_n, xcat_nil, xcat_i, xcat_r, xcat_l, xcat_d, Nat.zero_le, Nat.reduceAdd, Nat.reduceLeDiff, true_and, and_true, ykl_i, ykl_r, ykl_n, ykl_l]
    rw [← e1]
    simp only [s_132_7, r2, true_and]
    rw [← e2]
    simp only [s_132_8, s_132_8i, s_132_9, s_132_10, o2, g3 _, a3, l3, r1', r2', i10, ycl_0, plamp, hpa_o (show (6 : Nat) = 4 ∨ 6 = 6 ∨ 6 = 7 ∨ 6 = 8 by decide) (show 9 = xofA 6 from rfl), hgf_s, hsel_0, hsel_1, hsel_2, hsel_3, hsel_4, hsel_5, hsel_6, hsel_7, hsel_8, hset_0, hset_1, hset_2, hset_3, hset_4, hset_5, hset_6, hset_7, hset_8, hpf_s, hcl_s, hai_s, hpi_0, hpi_1, hln_0, hln_1, List.length_cons, List.length_nil, xwr_1, xwr_2, xnew_1, xnew_n, xnew_s, xnew_z, Nat.reduceLT, ite_true, and_self, hp_8_0, hp_8_1, hn_8_1, hp_8_2, hn_8_2, hp_9_0, hp_9_1, hp_9_2, hp_9_3, hp_9_4, hp_9_5, hn_9_5, hp_9_6, hn_9_6, hp_9_7, hn_9_7, hp_10_0, hp_10_1, hp_10_2, hn_10_2, hp_10_3, hn_10_3, hp_11_0, hp_12_0, hn_12_0, hp_12_1, hp_12_2, hp_12_3, hp_12_4, hp_12_5, hn_12_5, hp_12_6, hn_12_6, hp_12_7, hp_12_8, hp_13_0, hn_13_0, hp_13_1, hp_13_2, hp_13_3, hp_14_0, hn_14_0, hp_14_1, hp_14_2, hp_14_3, xdef_8, xdef_9, xdef_10, xdef_11, xdef_12, xdef_13, xdef_14, Gk_v, Gk_n, xcat_nil, xcat_i, xcat_r, xcat_l, xcat_d, Nat.zero_le, Nat.reduceAdd, Nat.reduceLeDiff, true_and, and_true, ykl_i, ykl_r, ykl_n, ykl_l]
    rw [← e4]
    simp only [s_132_11, s_132_12, s_132_13, s_132_14, s_132_15, s_132_16, s_132_17, hs, s4, xdef_12, pwr_at, pwr_wr, hgf_s, hsel_0, hsel_1, hsel_2, hsel_3, hsel_4, hsel_5, hsel_6, hsel_7, hsel_8, hset_0, hset_1, hset_2, hset_3, hset_4, hset_5, hset_6, hset_7, hset_8, hpf_s, hcl_s, hai_s, hpi_0, hpi_1, hln_0, hln_1, List.length_cons, List.length_nil, xwr_1, xwr_2, xnew_1, xnew_n, xnew_s, xnew_z, Nat.reduceLT, ite_true, and_self, hp_8_0, hp_8_1, hn_8_1, hp_8_2, hn_8_2, hp_9_0, hp_9_1, hp_9_2, hp_9_3, hp_9_4, hp_9_5, hn_9_5, hp_9_6, hn_9_6, hp_9_7, hn_9_7, hp_10_0, hp_10_1, hp_10_2, hn_10_2, hp_10_3, hn_10_3, hp_11_0, hp_12_0, hn_12_0, hp_12_1, hp_12_2, hp_12_3, hp_12_4, hp_12_5, hn_12_5, hp_12_6, hn_12_6, hp_12_7, hp_12_8, hp_13_0, hn_13_0, hp_13_1, hp_13_2, hp_13_3, hp_14_0, hn_14_0, hp_14_1, hp_14_2, hp_14_3, xdef_8, xdef_9, xdef_10, xdef_11, xdef_12, xdef_13, xdef_14, Gk_v, Gk_n, xcat_nil, xcat_i, xcat_r, xcat_l, xcat_d, Nat.zero_le, Nat.reduceAdd, Nat.reduceLeDiff, true_and, and_true, ykl_i, ykl_r, ykl_n, ykl_l]
    rw [← e5]
    simp only [s_132_18, s_132_19, s_132_20, s_132_21, s_132_21i, s_132_22, n1, n2, c1, r5, not_false_eq_true, hgf_s, hsel_0, hsel_1, hsel_2, hsel_3, hsel_4, hsel_5, hsel_6, hsel_7, hsel_8, hset_0, hset_1, hset_2, hset_3, hset_4, hset_5, hset_6, hset_7, hset_8, hpf_s, hcl_s, hai_s, hpi_0, hpi_1, hln_0, hln_1, List.length_cons, List.length_nil, xwr_1, xwr_2, xnew_1, xnew_n, xnew_s, xnew_z, Nat.reduceLT, ite_true, and_self, hp_8_0, hp_8_1, hn_8_1, hp_8_2, hn_8_2, hp_9_0, hp_9_1, hp_9_2, hp_9_3, hp_9_4, hp_9_5, hn_9_5, hp_9_6, hn_9_6, hp_9_7, hn_9_7, hp_10_0, hp_10_1, hp_10_2, hn_10_2, hp_10_3, hn_10_3, hp_11_0, hp_12_0, hn_12_0, hp_12_1, hp_12_2, hp_12_3, hp_12_4, hp_12_5, hn_12_5, hp_12_6, hn_12_6, hp_12_7, hp_12_8, hp_13_0, hn_13_0, hp_13_1, hp_13_2, hp_13_3, hp_14_0, hn_14_0, hp_14_1, hp_14_2, hp_14_3, xdef_8, xdef_9, xdef_10, xdef_11, xdef_12, xdef_13, xdef_14, Gk_v, Gk_n, xcat_nil, xcat_i, xcat_r, xcat_l, xcat_d, Nat.zero_le, Nat.reduceAdd, Nat.reduceLeDiff, true_and, and_true, ykl_i, ykl_r, ykl_n, ykl_l]
    rw [← e6]
    simp only [s_132_23, s_132_24, s_132_25, s_132_25i, s_132_26, s_132_27, s_132_28, s_132_29, s_132_29i, s_132_30, s_132_31, s_132_32, n3, n4, c2, r6, r6', yix2_0, yix2_1, ycl_0, ycl_1, pnew_at, pwr_nw, not_false_eq_true, hgf_s, hsel_0, hsel_1, hsel_2, hsel_3, hsel_4, hsel_5, hsel_6, hsel_7, hsel_8, hset_0, hset_1, hset_2, hset_3, hset_4, hset_5, hset_6, hset_7, hset_8, hpf_s, hcl_s, hai_s, hpi_0, hpi_1, hln_0, hln_1, List.length_cons, List.length_nil, xwr_1, xwr_2, xnew_1, xnew_n, xnew_s, xnew_z, Nat.reduceLT, ite_true, and_self, hp_8_0, hp_8_1, hn_8_1, hp_8_2, hn_8_2, hp_9_0, hp_9_1, hp_9_2, hp_9_3, hp_9_4, hp_9_5, hn_9_5, hp_9_6, hn_9_6, hp_9_7, hn_9_7, hp_10_0, hp_10_1, hp_10_2, hn_10_2, hp_10_3, hn_10_3, hp_11_0, hp_12_0, hn_12_0, hp_12_1, hp_12_2, hp_12_3, hp_12_4, hp_12_5, hn_12_5, hp_12_6, hn_12_6, hp_12_7, hp_12_8, hp_13_0, hn_13_0, hp_13_1, hp_13_2, hp_13_3, hp_14_0, hn_14_0, hp_14_1, hp_14_2, hp_14_3, xdef_8, xdef_9, xdef_10, xdef_11, xdef_12, xdef_13, xdef_14, Gk_v, Gk_n, xcat_nil, xcat_i, xcat_r, xcat_l, xcat_d, Nat.zero_le, Nat.reduceAdd, Nat.reduceLeDiff, true_and, and_true, ykl_i, ykl_r, ykl_n, ykl_l]
    rw [← e7]
    simp only [s_132_33, q7, v7, r5', r6', i10, ycl_0, hpa_i, true_and]
    rw [← e8]
    simp only [s_132_34, s_132_35, hs, s8, hgf_s, hsel_0, hsel_1, hsel_2, hsel_3, hsel_4, hsel_5, hsel_6, hsel_7, hsel_8, hset_0, hset_1, hset_2, hset_3, hset_4, hset_5, hset_6, hset_7, hset_8, hpf_s, hcl_s, hai_s, hpi_0, hpi_1, hln_0, hln_1, List.length_cons, List.length_nil, xwr_1, xwr_2, xnew_1, xnew_n, xnew_s, xnew_z, Nat.reduceLT, ite_true, and_self, hp_8_0, hp_8_1, hn_8_1, hp_8_2, hn_8_2, hp_9_0, hp_9_1, hp_9_2, hp_9_3, hp_9_4, hp_9_5, hn_9_5, hp_9_6, hn_9_6, hp_9_7, hn_9_7, hp_10_0, hp_10_1, hp_10_2, hn_10_2, hp_10_3, hn_10_3, hp_11_0, hp_12_0, hn_12_0, hp_12_1, hp_12_2, hp_12_3, hp_12_4, hp_12_5, hn_12_5, hp_12_6, hn_12_6, hp_12_7, hp_12_8, hp_13_0, hn_13_0, hp_13_1, hp_13_2, hp_13_3, hp_14_0, hn_14_0, hp_14_1, hp_14_2, hp_14_3, xdef_8, xdef_9, xdef_10, xdef_11, xdef_12, xdef_13, xdef_14, Gk_v, Gk_n, xcat_nil, xcat_i, xcat_r, xcat_l, xcat_d, Nat.zero_le, Nat.reduceAdd, Nat.reduceLeDiff, true_and, and_true, ykl_i, ykl_r, ykl_n, ykl_l]
  · refine ⟨⟨hs, ?_⟩, ⟨r1', va_up (fun _ => none) 0 (some σ1.2.1.1), ?_, ?_⟩, ?_, ?_, ⟨by show σ5.2.1.1 < 1000000; omega, va_up (fun _ => none) 0 (some σ6.2.1.1), ?_, ?_⟩, ?_⟩
    · rw [d3, d4, d5, d6]
      exact s9
    · rw [d1]
      exact a9
    · intro p hp
      have : p = 0 := by omega
      subst this
      rfl
    · intro p hp
      have : p = 0 := by omega
      subst this
      refine ⟨by show σ1.2.1.1 < 1000000; omega, ?_⟩
      rw [d7, d8, d9, d10, d11]
      exact l9
    · intro p hp
      have : p = 0 := by omega
      subst this
      rw [d12, d13, d14]
      exact ⟨⟨t9, pcol_0⟩, ⟨u9, pcol_0⟩, f9, pcol_0⟩
    · rw [d2]
      exact q9
    · intro q hq
      have : q = 0 := by omega
      subst this
      rfl
    · intro q hq
      have : q = 0 := by omega
      subst this
      refine ⟨by show σ6.2.1.1 < 1000000; omega, upd (upd (fun _ => 0) 0 0) 1 9999, v9, ?_, ?_⟩
      · rw [d15]; rfl
      · rw [d16]; rfl
end

/-! ===== curves by chance ===== -/
section
variable {d : Nat} {σ τ : xS} {r : Nat}
theorem pch_go (h : pch σ r) (Z : pZ σ) {b : Nat} (hb : 0 < b) (hb' : b < 65536) : ∃ v τ, v < b ∧ (Ra d 131 [.ref r, .int (yI b)] σ (.inl (some (.int (yI v)))) τ ∧ (((pZ τ ∧ pch τ r) ∧ pF (fun a => a = r) 0 0 σ τ) ∧ ((∀ a, a ≠ r → τ.1 a = σ.1 a) ∧ τ.2 = σ.2))) := by
  obtain ⟨v, x, hv, g⟩ := m_131' (d := d) h hb hb'
  obtain ⟨hr, x0, h0⟩ := h
  exact ⟨v, _, hv, g, ⟨⟨pZ_wr Z h0, pch_at hr⟩, pF_wr (pZ_lt Z h0) rfl⟩, fun a ha => by rw [xwr_1, if_neg ha], rfl⟩
theorem pV_set {a : Nat} {kd : Nat} {nm : Int32} {u : Value} (hk : 2 ≤ kd ∧ kd ≤ 5) (h : σ.1 a = some (.inr (10, [.int (yI kd), .int nm, u, .null]))) (Z : ∀ b e, b ≠ a → σ.1 b = some e → τ.1 b = some e) : ∀ k b l, pV σ k b l → pV τ k b l := by
  have k0 : ¬ yI kd = 0 := fun e => by
    have := (yI_inj (m := 0) (by omega) (by decide)).mp e
    omega
  have k1 : ¬ yI kd = 1 := fun e => by
    have := (yI_inj (m := 1) (by omega) (by decide)).mp e
    omega
  intro k
  induction k with
  | zero => intro b l h; exact h
  | succ k ih =>
    intro b l hv
    obtain ⟨hb, kd', nm', u', w', hc, hq⟩ := hv
    have hne : b ≠ a := fun e => by
      rw [e, h] at hc
      have hc' := Option.some.inj hc
      simp only [Sum.inr.injEq, Prod.mk.injEq, List.cons.injEq, Value.int.injEq] at hc'
      obtain ⟨-, e1, -, -, e4, -⟩ := hc'
      rcases hq with ⟨q1, -⟩ | ⟨q1, -⟩ | ⟨-, b', c', lb, lc, ⟨-, q2⟩, -⟩
      · exact k0 (e1.trans q1)
      · exact k1 (e1.trans q1)
      · rw [q2] at e4
        cases e4
    refine ⟨hb, kd', nm', u', w', Z b _ hne hc, ?_⟩
    rcases hq with hq | hq | ⟨h1, b', c', lb, lc, h2, h3, h4, h5⟩
    · exact Or.inl hq
    · exact Or.inr (Or.inl hq)
    · exact Or.inr (Or.inr ⟨h1, b', c', lb, lc, h2, ih _ _ h3, ih _ _ h4, h5⟩)
/-- a node's kind and number -/
theorem l_127a {σ : xS} (h : pch σ r) (Z : pZ σ) {k : Nat} (hk : k ≤ 2) (hr : σ.2.1.1 + 2 < 900000) : ∃ σ4 kd nm, (∀ Q, G (d + 1) 127 0 [some (.ref r), some (.int (yI k)), none] [] σ Q ↔ G (d + 1) 127 33 [some (.ref r), some (.int (yI k)), some (.ref σ.2.1.1)] [] σ4 Q) ∧ ((σ4.1 σ.2.1.1 = some (.inr (10, [.int (yI kd), .int (yI nm), .null, .null])) ∧ (((kd = 0 ∧ nm < 10000) ∨ ((kd = 1 ∧ nm < 2) ∨ (2 ≤ kd ∧ kd ≤ 5))) ∧ (k = 0 → kd < 2))) ∧ (((pZ σ4 ∧ pch σ4 r) ∧ pF (fun a => a = r) 1 4 σ σ4) ∧ σ4.2.1.1 = σ.2.1.1 + 1)) := by
  obtain ⟨hr9, x0, h0⟩ := h
  have hrl := pZ_lt Z h0
  have r1 : σ.2.1.1 < 900000 := by omega
  have r9 : σ.2.1.1 < 1000000 := by omega
  have Z1 := pZ_new (e := .inr (10, xdef 10)) (m := 4) Z
  have F1 : pF (fun a => a = r) 1 4 σ (xnew σ (.inr (10, xdef 10)) 4) := pF_new
  have a1 : (xnew σ (.inr (10, xdef 10)) 4).1 σ.2.1.1 = some (.inr (10, xdef 10)) := pnew_at
  have p1 : pch (xnew σ (.inr (10, xdef 10)) 4) r := ⟨hr9, x0, by rw [xnew_1, if_neg (by omega), h0]⟩
  have x1 : (xnew σ (.inr (10, xdef 10)) 4).2.1.1 = σ.2.1.1 + 1 := rfl
  obtain ⟨σ1, e1⟩ : ∃ σ1, σ1 = xnew σ (.inr (10, xdef 10)) 4 := ⟨_, rfl⟩
  rw [← e1] at Z1 F1 a1 p1 x1
  have g126 : ∀ Q', Cl d 126 [.ref σ.2.1.1] σ1 Q' ↔ Q' (.inl none) σ1 := by
    intro Q'
    show G d 126 0 [some (.ref σ.2.1.1)] [] σ1 Q' ↔ _
    simp only [s_126_0, s_126_1, s_126_2, r9, Gk_v, Gk_n, xcat_nil, xcat_i, xcat_r, xcat_l, xcat_d, Nat.zero_le, Nat.reduceAdd, Nat.reduceLeDiff, true_and, and_true, ykl_i, ykl_r, ykl_n, ykl_l]
  -- the kind
  obtain ⟨bd, hbd⟩ : ∃ bd, bd = if k = 0 then 2 else 6 := ⟨_, rfl⟩
  obtain ⟨kd, σ2, hkd, g2, ⟨⟨Z2, p2⟩, F2⟩, q2, x2⟩ := pch_go (d := d) p1 Z1 (b := bd) (by rw [hbd]; split <;> decide) (by rw [hbd]; split <;> decide)
  have a2 : σ2.1 σ.2.1.1 = some (.inr (10, [.int 0, .int 0, .null, .null])) := by rw [q2 _ (by omega), a1]; rfl
  have a3 : (xwr σ2 σ.2.1.1 (.inr (10, [.int (yI kd), .int 0, .null, .null]))).1 σ.2.1.1 = some (.inr (10, [.int (yI kd), .int 0, .null, .null])) := pwr_at
  have Z3 := pZ_wr Z2 a2 (e' := .inr (10, [.int (yI kd), .int 0, .null, .null]))
  have F12 : pF (fun a => a = r) 1 4 σ σ2 := pF.trans F1 F2 (fun _ _ q => q.elim id id)
  have F3 : pF (fun a => a = r) 1 4 σ (xwr σ2 σ.2.1.1 (.inr (10, [.int (yI kd), .int 0, .null, .null]))) := pF_hi F12 Z2 a2 (Nat.le_refl _)
  have p3 : pch (xwr σ2 σ.2.1.1 (.inr (10, [.int (yI kd), .int 0, .null, .null]))) r := by
    obtain ⟨h1, y, h2⟩ := p2
    exact ⟨h1, y, by rw [xwr_1, if_neg (by omega), h2]⟩
  have x3 : (xwr σ2 σ.2.1.1 (.inr (10, [.int (yI kd), .int 0, .null, .null]))).2 = σ2.2 := rfl
  obtain ⟨σ3, e3⟩ : ∃ σ3, σ3 = xwr σ2 σ.2.1.1 (.inr (10, [.int (yI kd), .int 0, .null, .null])) := ⟨_, rfl⟩
  rw [← e3] at a3 Z3 F3 p3 x3
  have or1 : ∃ fs, xRd σ1 r = some (.inr (11, fs)) := ⟨_, (yrd_lt hr9).trans p1.2.choose_spec⟩
  obtain ⟨fr1, or1⟩ := or1
  have o1 : xRd σ1 σ.2.1.1 = some (.inr (10, xdef 10)) := (yrd_lt r9).trans a1
  have st : ∀ Q, G (d + 1) 127 0 [some (.ref r), some (.int (yI k)), none] [] σ Q ↔ G (d + 1) 127 15 [some (.ref r), some (.int (yI k)), some (.ref σ.2.1.1)] [] σ3 Q := by
    intro Q
    simp only [s_127_0, r1, true_and]
    rw [← e1]
    by_cases hk0 : k = 0
    · rw [if_pos hk0] at hbd
      subst hbd hk0
      have g2' : Ra d 131 [.ref r, .int 2] σ1 (.inl (some (.int (yI kd)))) σ2 := g2
      have z : yI 0 = 0 := rfl
      simp only [s_127_1, s_127_1i, s_127_2, s_127_4, s_127_5, s_127_6, s_127_7, s_127_8, s_127_9, s_127_10, s_127_11, s_127_12, s_127_13, s_127_14, s_127_3 r9, o1, g126, or1, g2' _, z, r9, a2, ne_eq, not_true_eq_false, if_false, hgf_s, hsel_0, hsel_1, hsel_2, hsel_3, hsel_4, hsel_5, hsel_6, hsel_7, hsel_8, hset_0, hset_1, hset_2, hset_3, hset_4, hset_5, hset_6, hset_7, hset_8, hpf_s, hcl_s, hai_s, hpi_0, hpi_1, hln_0, hln_1, List.length_cons, List.length_nil, xwr_1, xwr_2, xnew_1, xnew_n, xnew_s, xnew_z, Nat.reduceLT, ite_true, and_self, hp_8_0, hp_8_1, hn_8_1, hp_8_2, hn_8_2, hp_9_0, hp_9_1, hp_9_2, hp_9_3, hp_9_4, hp_9_5, hn_9_5, hp_9_6, hn_9_6, hp_9_7, hn_9_7, hp_10_0, hp_10_1, hp_10_2, hn_10_2, hp_10_3, hn_10_3, hp_11_0, hp_12_0, hn_12_0, hp_12_1, hp_12_2, hp_12_3, hp_12_4, hp_12_5, hn_12_5, hp_12_6, hn_12_6, hp_12_7, hp_12_8, hp_13_0, hn_13_0, hp_13_1, hp_13_2, hp_13_3, hp_14_0, hn_14_0, hp_14_1, hp_14_2, hp_14_3, xdef_8, xdef_9, xdef_10, xdef_11, xdef_12, xdef_13, xdef_14, Gk_v, Gk_n, xcat_nil, xcat_i, xcat_r, xcat_l, xcat_d, Nat.zero_le, Nat.reduceAdd, Nat.reduceLeDiff, true_and, and_true, ykl_i, ykl_r, ykl_n, ykl_l]
      rw [← e3]
    · rw [if_neg hk0] at hbd
      subst hbd
      have g2' : Ra d 131 [.ref r, .int 6] σ1 (.inl (some (.int (yI kd)))) σ2 := g2
      have z : ¬ yI k = 0 := fun e => hk0 ((yI_inj (m := 0) (by omega) (by decide)).mp e)
      simp only [s_127_1, s_127_1i, s_127_2, s_127_4, s_127_5, s_127_6, s_127_7, s_127_8, s_127_9, s_127_10, s_127_11, s_127_12, s_127_13, s_127_14, s_127_3 r9, o1, g126, or1, g2' _, z, r9, a2, ne_eq, not_false_eq_true, if_true, hgf_s, hsel_0, hsel_1, hsel_2, hsel_3, hsel_4, hsel_5, hsel_6, hsel_7, hsel_8, hset_0, hset_1, hset_2, hset_3, hset_4, hset_5, hset_6, hset_7, hset_8, hpf_s, hcl_s, hai_s, hpi_0, hpi_1, hln_0, hln_1, List.length_cons, List.length_nil, xwr_1, xwr_2, xnew_1, xnew_n, xnew_s, xnew_z, Nat.reduceLT, ite_true, and_self, hp_8_0, hp_8_1, hn_8_1, hp_8_2, hn_8_2, hp_9_0, hp_9_1, hp_9_2, hp_9_3, hp_9_4, hp_9_5, hn_9_5, hp_9_6, hn_9_6, hp_9_7, hn_9_7, hp_10_0, hp_10_1, hp_10_2, hn_10_2, hp_10_3, hn_10_3, hp_11_0, hp_12_0, hn_12_0, hp_12_1, hp_12_2, hp_12_3, hp_12_4, hp_12_5, hn_12_5, hp_12_6, hn_12_6, hp_12_7, hp_12_8, hp_13_0, hn_13_0, hp_13_1, hp_13_2, hp_13_3, hp_14_0, hn_14_0, hp_14_1, hp_14_2, hp_14_3, xdef_8, xdef_9, xdef_10, xdef_11, xdef_12, xdef_13, xdef_14, Gk_v, Gk_n, xcat_nil, xcat_i, xcat_r, xcat_l, xcat_d, Nat.zero_le, Nat.reduceAdd, Nat.reduceLeDiff, true_and, and_true, ykl_i, ykl_r, ykl_n, ykl_l]
      rw [← e3]
  have hkd6 : kd < 6 ∧ (k = 0 → kd < 2) := by
    rw [hbd] at hkd
    by_cases hk0 : k = 0
    · rw [if_pos hk0] at hkd
      exact ⟨by omega, fun _ => hkd⟩
    · rw [if_neg hk0] at hkd
      exact ⟨hkd, fun q => absurd q hk0⟩
  have o3 : xRd σ3 σ.2.1.1 = some (.inr (10, [.int (yI kd), .int 0, .null, .null])) := (yrd_lt r9).trans a3
  obtain ⟨fr3, or3⟩ : ∃ fs, xRd σ3 r = some (.inr (11, fs)) := ⟨_, (yrd_lt hr9).trans p3.2.choose_spec⟩
  -- the number
  suffices S : ∃ σ4 nm, ((kd = 0 ∧ nm < 10000) ∨ ((kd = 1 ∧ nm < 2) ∨ (2 ≤ kd ∧ kd ≤ 5))) ∧ ((∀ Q, G (d + 1) 127 15 [some (.ref r), some (.int (yI k)), some (.ref σ.2.1.1)] [] σ3 Q ↔ G (d + 1) 127 33 [some (.ref r), some (.int (yI k)), some (.ref σ.2.1.1)] [] (xwr σ4 σ.2.1.1 (.inr (10, [.int (yI kd), .int (yI nm), .null, .null]))) Q) ∧ (((pZ σ4 ∧ pch σ4 r) ∧ pF (fun a => a = r) 0 0 σ3 σ4) ∧ (σ4.1 σ.2.1.1 = some (.inr (10, [.int (yI kd), .int 0, .null, .null])) ∧ σ4.2 = σ3.2))) by
    obtain ⟨σ4, nm, s1, s2, ⟨⟨Z4, p4⟩, F4⟩, a4, x4⟩ := S
    refine ⟨_, kd, nm, fun Q => (st Q).trans (s2 Q), ⟨pwr_at, s1, hkd6.2⟩, ⟨⟨pZ_wr Z4 a4, ?_⟩, ?_⟩, ?_⟩
    · obtain ⟨h1, y, h2⟩ := p4
      exact ⟨h1, y, by rw [xwr_1, if_neg (by omega), h2]⟩
    · exact pF_hi (pF.trans F3 F4 (P' := fun a => a = r) (fun _ _ q => q.elim id id)) Z4 a4 (Nat.le_refl _)
    · show σ4.2.1.1 = _
      rw [x4, x3, x2, x1]
  by_cases hk0 : kd = 0
  · subst hk0
    obtain ⟨v5, σ5, hv5, g5, ⟨⟨Z5, p5⟩, F5⟩, q5, x5⟩ := pch_go (d := d) p3 Z3 (b := 8) (by decide) (by decide)
    obtain ⟨bm, hbm⟩ : ∃ bm, bm = if v5 = 0 then 10000 else 255 := ⟨_, rfl⟩
    obtain ⟨v6, σ6, hv6, g6, ⟨⟨Z6, p6⟩, F6⟩, q6, x6⟩ := pch_go (d := d) p5 Z5 (b := bm) (by rw [hbm]; split <;> decide) (by rw [hbm]; split <;> decide)
    have a6 : σ6.1 σ.2.1.1 = some (.inr (10, [.int (yI 0), .int 0, .null, .null])) := by rw [q6 _ (by omega), q5 _ (by omega), a3]
    refine ⟨σ6, v6, Or.inl ⟨rfl, by rw [hbm] at hv6; split at hv6 <;> omega⟩, fun Q => ?_, ⟨⟨Z6, p6⟩, pF.trans F5 F6 (fun _ _ q => q.elim id id)⟩, a6, x6.trans x5⟩
    have g5' : Ra d 131 [.ref r, .int 8] σ3 (.inl (some (.int (yI v5)))) σ5 := g5
    have o3' : xRd σ3 σ.2.1.1 = some (.inr (10, [.int 0, .int 0, .null, .null])) := o3
    have a6' : σ6.1 σ.2.1.1 = some (.inr (10, [.int 0, .int 0, .null, .null])) := a6
    obtain ⟨fr5, or5⟩ : ∃ fs, xRd σ5 r = some (.inr (11, fs)) := ⟨_, (yrd_lt hr9).trans p5.2.choose_spec⟩
    by_cases hv0 : v5 = 0
    · rw [if_pos hv0] at hbm
      subst hbm hv0
      have g6' : Ra d 131 [.ref r, .int 10000] σ5 (.inl (some (.int (yI v6)))) σ6 := g6
      have z : yI 0 = 0 := rfl
      simp only [s_127_15, s_127_16, s_127_17, s_127_18, s_127_19, s_127_20, s_127_21, s_127_22, s_127_23, s_127_24, s_127_25, s_127_26, s_127_27, s_127_28, s_127_29, s_127_30, s_127_31, s_127_32, o3', or3, or5, g5' _, g6' _, z, r9, a6', ne_eq, not_true_eq_false, if_false, hgf_s, hsel_0, hsel_1, hsel_2, hsel_3, hsel_4, hsel_5, hsel_6, hsel_7, hsel_8, hset_0, hset_1, hset_2, hset_3, hset_4, hset_5, hset_6, hset_7, hset_8, hpf_s, hcl_s, hai_s, hpi_0, hpi_1, hln_0, hln_1, List.length_cons, List.length_nil, xwr_1, xwr_2, xnew_1, xnew_n, xnew_s, xnew_z, Nat.reduceLT, ite_true, and_self, hp_8_0, hp_8_1, hn_8_1, hp_8_2, hn_8_2, hp_9_0, hp_9_1, hp_9_2, hp_9_3, hp_9_4, hp_9_5, hn_9_5, hp_9_6, hn_9_6, hp_9_7, hn_9_7, hp_10_0, hp_10_1, hp_10_2, hn_10_2, hp_10_3, hn_10_3, hp_11_0, hp_12_0, hn_12_0, hp_12_1, hp_12_2, hp_12_3, hp_12_4, hp_12_5, hn_12_5, hp_12_6, hn_12_6, hp_12_7, hp_12_8, hp_13_0, hn_13_0, hp_13_1, hp_13_2, hp_13_3, hp_14_0, hn_14_0, hp_14_1, hp_14_2, hp_14_3, xdef_8, xdef_9, xdef_10, xdef_11, xdef_12, xdef_13, xdef_14, Gk_v, Gk_n, xcat_nil, xcat_i, xcat_r, xcat_l, xcat_d, Nat.zero_le, Nat.reduceAdd, Nat.reduceLeDiff, true_and, and_true, ykl_i, ykl_r, ykl_n, ykl_l]
    · rw [if_neg hv0] at hbm
      subst hbm
      have g6' : Ra d 131 [.ref r, .int 255] σ5 (.inl (some (.int (yI v6)))) σ6 := g6
      have z : ¬ yI v5 = 0 := fun e => hv0 ((yI_inj (m := 0) (by omega) (by decide)).mp e)
      have z0 : yI 0 = 0 := rfl
      simp only [s_127_15, s_127_16, s_127_17, s_127_18, s_127_19, s_127_20, s_127_21, s_127_22, s_127_23, s_127_24, s_127_25, s_127_26, s_127_27, s_127_28, s_127_29, s_127_30, s_127_31, s_127_32, o3', or3, or5, g5' _, g6' _, z, z0, r9, a6', ne_eq, not_true_eq_false, not_false_eq_true, if_true, if_false, hgf_s, hsel_0, hsel_1, hsel_2, hsel_3, hsel_4, hsel_5, hsel_6, hsel_7, hsel_8, hset_0, hset_1, hset_2, hset_3, hset_4, hset_5, hset_6, hset_7, hset_8, hpf_s, hcl_s, hai_s, hpi_0, hpi_1, hln_0, hln_1, List.length_cons, List.length_nil, xwr_1, xwr_2, xnew_1, xnew_n, xnew_s, xnew_z, Nat.reduceLT, ite_true, and_self, hp_8_0, hp_8_1, hn_8_1, hp_8_2, hn_8_2, hp_9_0, hp_9_1, hp_9_2, hp_9_3, hp_9_4, hp_9_5, hn_9_5, hp_9_6, hn_9_6, hp_9_7, hn_9_7, hp_10_0, hp_10_1, hp_10_2, hn_10_2, hp_10_3, hn_10_3, hp_11_0, hp_12_0, hn_12_0, hp_12_1, hp_12_2, hp_12_3, hp_12_4, hp_12_5, hn_12_5, hp_12_6, hn_12_6, hp_12_7, hp_12_8, hp_13_0, hn_13_0, hp_13_1, hp_13_2, hp_13_3, hp_14_0, hn_14_0, hp_14_1, hp_14_2, hp_14_3, xdef_8, xdef_9, xdef_10, xdef_11, xdef_12, xdef_13, xdef_14, Gk_v, Gk_n, xcat_nil, xcat_i, xcat_r, xcat_l, xcat_d, Nat.zero_le, Nat.reduceAdd, Nat.reduceLeDiff, true_and, and_true, ykl_i, ykl_r, ykl_n, ykl_l]
  · obtain ⟨v5, σ5, hv5, g5, ⟨⟨Z5, p5⟩, F5⟩, q5, x5⟩ := pch_go (d := d) p3 Z3 (b := 2) (by decide) (by decide)
    have a5 : σ5.1 σ.2.1.1 = some (.inr (10, [.int (yI kd), .int 0, .null, .null])) := by rw [q5 _ (by omega), a3]
    refine ⟨σ5, v5, Or.inr (by omega), fun Q => ?_, ⟨⟨Z5, p5⟩, F5⟩, a5, x5⟩
    have g5' : Ra d 131 [.ref r, .int 2] σ3 (.inl (some (.int (yI v5)))) σ5 := g5
    have z : ¬ yI kd = 0 := fun e => hk0 ((yI_inj (m := 0) (by omega) (by decide)).mp e)
    simp only [s_127_15, s_127_16, s_127_17, s_127_18, s_127_19, s_127_20, s_127_21, s_127_22, s_127_23, s_127_24, s_127_25, s_127_26, s_127_27, s_127_28, s_127_29, s_127_30, s_127_31, s_127_32, o3, or3, g5' _, z, r9, a5, ne_eq, not_false_eq_true, if_true, hgf_s, hsel_0, hsel_1, hsel_2, hsel_3, hsel_4, hsel_5, hsel_6, hsel_7, hsel_8, hset_0, hset_1, hset_2, hset_3, hset_4, hset_5, hset_6, hset_7, hset_8, hpf_s, hcl_s, hai_s, hpi_0, hpi_1, hln_0, hln_1, List.length_cons, List.length_nil, xwr_1, xwr_2, xnew_1, xnew_n, xnew_s, xnew_z, Nat.reduceLT, ite_true, and_self, hp_8_0, hp_8_1, hn_8_1, hp_8_2, hn_8_2, hp_9_0, hp_9_1, hp_9_2, hp_9_3, hp_9_4, hp_9_5, hn_9_5, hp_9_6, hn_9_6, hp_9_7, hn_9_7, hp_10_0, hp_10_1, hp_10_2, hn_10_2, hp_10_3, hn_10_3, hp_11_0, hp_12_0, hn_12_0, hp_12_1, hp_12_2, hp_12_3, hp_12_4, hp_12_5, hn_12_5, hp_12_6, hn_12_6, hp_12_7, hp_12_8, hp_13_0, hn_13_0, hp_13_1, hp_13_2, hp_13_3, hp_14_0, hn_14_0, hp_14_1, hp_14_2, hp_14_3, xdef_8, xdef_9, xdef_10, xdef_11, xdef_12, xdef_13, xdef_14, Gk_v, Gk_n, xcat_nil, xcat_i, xcat_r, xcat_l, xcat_d, Nat.zero_le, Nat.reduceAdd, Nat.reduceLeDiff, true_and, and_true, ykl_i, ykl_r, ykl_n, ykl_l]
theorem m_127 : ∀ k (σ : xS), pch σ r → pZ σ → k ≤ 2 → σ.2.1.1 + 2 * 2 ^ k + 2 < 900000 → ∃ τ a l, Ra (d + k + 1) 127 [.ref r, .int (yI k)] σ (.inl (some (.ref a))) τ ∧ (pV τ (k + 1) a l ∧ (((pZ τ ∧ pch τ r) ∧ pF (fun a => a = r) (2 * 2 ^ k - 1) (8 * 2 ^ k - 4) σ τ))) := by
  intro k
  induction k with
  | zero =>
    intro σ h Z hk hr
    obtain ⟨σ4, kd, nm, st, ⟨a4, h4, h5⟩, ⟨⟨Z4, p4⟩, F4⟩, x4⟩ := l_127a (d := d) h Z hk (by omega)
    have r9 : σ.2.1.1 < 1000000 := by omega
    have hk2 := h5 rfl
    have o4 : xRd σ4 σ.2.1.1 = _ := (yrd_lt r9).trans a4
    have z : yI kd ≤ 1 := (yI_le (m := 1) (by omega) (by decide)).mpr (by omega)
    have run : ∀ Q, Cl (d + 0 + 1) 127 [.ref r, .int (yI 0)] σ Q ↔ Q (.inl (some (.ref σ.2.1.1))) σ4 := by
      intro Q
      show G (d + 1) 127 0 [some (.ref r), some (.int (yI 0)), none] [] σ Q ↔ _
      refine (st Q).trans ?_
      simp only [s_127_33, s_127_34, s_127_35, s_127_36, s_127_51, s_127_52, o4, z, if_true, hgf_s, hsel_0, hsel_1, hsel_2, hsel_3, hsel_4, hsel_5, hsel_6, hsel_7, hsel_8, hset_0, hset_1, hset_2, hset_3, hset_4, hset_5, hset_6, hset_7, hset_8, hpf_s, hcl_s, hai_s, hpi_0, hpi_1, hln_0, hln_1, List.length_cons, List.length_nil, xwr_1, xwr_2, xnew_1, xnew_n, xnew_s, xnew_z, Nat.reduceLT, ite_true, and_self, hp_8_0, hp_8_1, hn_8_1, hp_8_2, hn_8_2, hp_9_0, hp_9_1, hp_9_2, hp_9_3, hp_9_4, hp_9_5, hn_9_5, hp_9_6, hn_9_6, hp_9_7, hn_9_7, hp_10_0, hp_10_1, hp_10_2, hn_10_2, hp_10_3, hn_10_3, hp_11_0, hp_12_0, hn_12_0, hp_12_1, hp_12_2, hp_12_3, hp_12_4, hp_12_5, hn_12_5, hp_12_6, hn_12_6, hp_12_7, hp_12_8, hp_13_0, hn_13_0, hp_13_1, hp_13_2, hp_13_3, hp_14_0, hn_14_0, hp_14_1, hp_14_2, hp_14_3, xdef_8, xdef_9, xdef_10, xdef_11, xdef_12, xdef_13, xdef_14, Gk_v, Gk_n, xcat_nil, xcat_i, xcat_r, xcat_l, xcat_d, Nat.zero_le, Nat.reduceAdd, Nat.reduceLeDiff, true_and, and_true, ykl_i, ykl_r, ykl_n, ykl_l]
    rcases h4 with ⟨rfl, h4⟩ | ⟨rfl, h4⟩ | h4
    · exact ⟨σ4, σ.2.1.1, [yI nm], run, ⟨r9, 0, yI nm, .null, .null, a4, Or.inl ⟨rfl, nm, h4, rfl, rfl⟩⟩, ⟨Z4, p4⟩, F4.mono (fun _ _ q => q) (by decide) (by decide)⟩
    · rcases (by omega : nm = 0 ∨ nm = 1) with rfl | rfl
      · exact ⟨σ4, σ.2.1.1, [-1], run, ⟨r9, 1, 0, .null, .null, a4, Or.inr (Or.inl ⟨rfl, Or.inl ⟨rfl, rfl⟩⟩)⟩, ⟨Z4, p4⟩, F4.mono (fun _ _ q => q) (by decide) (by decide)⟩
      · exact ⟨σ4, σ.2.1.1, [-2], run, ⟨r9, 1, 1, .null, .null, a4, Or.inr (Or.inl ⟨rfl, Or.inr ⟨rfl, rfl⟩⟩)⟩, ⟨Z4, p4⟩, F4.mono (fun _ _ q => q) (by decide) (by decide)⟩
    · omega
  | succ k ih =>
    intro σ h Z hk hr
    have hp : 2 ^ (k + 1) = 2 * 2 ^ k := by rw [Nat.pow_succ]; omega
    have hp1 : 1 ≤ 2 ^ k := Nat.pow_pos (by decide)
    have hp2 : 2 ^ k ≤ 2 ^ 1 := Nat.pow_le_pow_right (by decide) (by omega)
    rw [hp] at hr ⊢
    obtain ⟨σ4, kd, nm, st, ⟨a4, h4, h5⟩, ⟨⟨Z4, p4⟩, F4⟩, x4⟩ := l_127a (d := d + k + 1) h Z hk (by omega)
    have r9 : σ.2.1.1 < 1000000 := by omega
    have o4 : xRd σ4 σ.2.1.1 = _ := (yrd_lt r9).trans a4
    have hrl : r < σ.2.1.1 := by
      obtain ⟨-, y, h1⟩ := h
      exact pZ_lt Z h1
    by_cases hk1 : kd ≤ 1
    · have z : yI kd ≤ 1 := (yI_le (m := 1) (by omega) (by decide)).mpr hk1
      have run : ∀ Q, Cl (d + (k + 1) + 1) 127 [.ref r, .int (yI (k + 1))] σ Q ↔ Q (.inl (some (.ref σ.2.1.1))) σ4 := by
        intro Q
        show G (d + k + 1 + 1) 127 0 [some (.ref r), some (.int (yI (k + 1))), none] [] σ Q ↔ _
        refine (st Q).trans ?_
        simp only [s_127_33, s_127_34, s_127_35, s_127_36, s_127_51, s_127_52, o4, z, if_true, hgf_s, hsel_0, hsel_1, hsel_2, hsel_3, hsel_4, hsel_5, hsel_6, hsel_7, hsel_8, hset_0, hset_1, hset_2, hset_3, hset_4, hset_5, hset_6, hset_7, hset_8, hpf_s, hcl_s, hai_s, hpi_0, hpi_1, hln_0, hln_1, List.length_cons, List.length_nil, xwr_1, xwr_2, xnew_1, xnew_n, xnew_s, xnew_z, Nat.reduceLT, ite_true, and_self, hp_8_0, hp_8_1, hn_8_1, hp_8_2, hn_8_2, hp_9_0, hp_9_1, hp_9_2, hp_9_3, hp_9_4, hp_9_5, hn_9_5, hp_9_6, hn_9_6, hp_9_7, hn_9_7, hp_10_0, hp_10_1, hp_10_2, hn_10_2, hp_10_3, hn_10_3, hp_11_0, hp_12_0, hn_12_0, hp_12_1, hp_12_2, hp_12_3, hp_12_4, hp_12_5, hn_12_5, hp_12_6, hn_12_6, hp_12_7, hp_12_8, hp_13_0, hn_13_0, hp_13_1, hp_13_2, hp_13_3, hp_14_0, hn_14_0, hp_14_1, hp_14_2, hp_14_3, xdef_8, xdef_9, xdef_10, xdef_11, xdef_12, xdef_13, xdef_14, Gk_v, Gk_n, xcat_nil, xcat_i, xcat_r, xcat_l, xcat_d, Nat.zero_le, Nat.reduceAdd, Nat.reduceLeDiff, true_and, and_true, ykl_i, ykl_r, ykl_n, ykl_l]
      rcases h4 with ⟨rfl, h4⟩ | ⟨rfl, h4⟩ | h4
      · exact ⟨σ4, σ.2.1.1, [yI nm], run, ⟨r9, 0, yI nm, .null, .null, a4, Or.inl ⟨rfl, nm, h4, rfl, rfl⟩⟩, ⟨Z4, p4⟩, F4.mono (fun _ _ q => q) (by omega) (by omega)⟩
      · rcases (by omega : nm = 0 ∨ nm = 1) with rfl | rfl
        · exact ⟨σ4, σ.2.1.1, [-1], run, ⟨r9, 1, 0, .null, .null, a4, Or.inr (Or.inl ⟨rfl, Or.inl ⟨rfl, rfl⟩⟩)⟩, ⟨Z4, p4⟩, F4.mono (fun _ _ q => q) (by omega) (by omega)⟩
        · exact ⟨σ4, σ.2.1.1, [-2], run, ⟨r9, 1, 1, .null, .null, a4, Or.inr (Or.inl ⟨rfl, Or.inr ⟨rfl, rfl⟩⟩)⟩, ⟨Z4, p4⟩, F4.mono (fun _ _ q => q) (by omega) (by omega)⟩
      · omega
    · have hkd : 2 ≤ kd ∧ kd ≤ 5 := by omega
      have z : ¬ yI kd ≤ 1 := fun g => by
        have := (yI_le (m := 1) (by omega) (by decide)).mp g
        omega
      have zk : yI (k + 1) - 1 = yI k := by rw [yI_sub1 (by omega)]; rfl
      -- the left side
      obtain ⟨σ5, b, lb, g5, V5, ⟨Z5, p5⟩, F5⟩ := ih σ4 p4 Z4 (by omega) (by omega)
      have a5 := pF_keep Z4 F5 a4 (by omega)
      have nx5 := F5.2.2.1
      have hb : b < 1000000 := V5.1
      have V6 := pV_set (τ := xwr σ5 σ.2.1.1 (.inr (10, [.int (yI kd), .int (yI nm), .ref b, .null]))) hkd a5 (fun b' e hne h' => by rw [xwr_1, if_neg hne, h']) _ _ _ V5
      have Z6 := pZ_wr Z5 a5 (e' := .inr (10, [.int (yI kd), .int (yI nm), .ref b, .null]))
      have F45 : pF (fun a => a = r) (1 + (2 * 2 ^ k - 1)) (4 + (8 * 2 ^ k - 4)) σ σ5 := pF.trans F4 F5 (fun _ _ q => q.elim id id)
      have F6 := pF_hi F45 Z5 a5 (Nat.le_refl _) (e' := .inr (10, [.int (yI kd), .int (yI nm), .ref b, .null]))
      have a6 : (xwr σ5 σ.2.1.1 (.inr (10, [.int (yI kd), .int (yI nm), .ref b, .null]))).1 σ.2.1.1 = some (.inr (10, [.int (yI kd), .int (yI nm), .ref b, .null])) := pwr_at
      have p6 : pch (xwr σ5 σ.2.1.1 (.inr (10, [.int (yI kd), .int (yI nm), .ref b, .null]))) r := by
        obtain ⟨h1, y, h2⟩ := p5
        exact ⟨h1, y, by rw [xwr_1, if_neg (by omega), h2]⟩
      have x6 : (xwr σ5 σ.2.1.1 (.inr (10, [.int (yI kd), .int (yI nm), .ref b, .null]))).2.1.1 = σ5.2.1.1 := rfl
      obtain ⟨σ6, e6⟩ : ∃ σ6, σ6 = xwr σ5 σ.2.1.1 (.inr (10, [.int (yI kd), .int (yI nm), .ref b, .null])) := ⟨_, rfl⟩
      rw [← e6] at V6 Z6 F6 a6 p6 x6
      -- the right side
      obtain ⟨σ7, c, lc, g7, V7, ⟨Z7, p7⟩, F7⟩ := ih σ6 p6 Z6 (by omega) (by omega)
      have a7 := pF_keep Z6 F7 a6 (by omega)
      have hc : c < 1000000 := V7.1
      have keep7 : ∀ b' e, σ6.1 b' = some e → pco e → σ7.1 b' = some e := fun b' e h' hco => by
        refine pF_keep Z6 F7 h' (fun q => ?_)
        have q' : b' = r := q
        obtain ⟨-, y, h2⟩ := p6
        rw [q', h2] at h'
        cases h'
        exact pco_11 hco
      have V6' := pV_no keep7 _ _ _ V6
      have V7' := pV_set (τ := xwr σ7 σ.2.1.1 (.inr (10, [.int (yI kd), .int (yI nm), .ref b, .ref c]))) hkd a7 (fun b' e hne h' => by rw [xwr_1, if_neg hne, h']) _ _ _ V7
      have V6'' := pV_set (τ := xwr σ7 σ.2.1.1 (.inr (10, [.int (yI kd), .int (yI nm), .ref b, .ref c]))) hkd a7 (fun b' e hne h' => by rw [xwr_1, if_neg hne, h']) _ _ _ V6'
      have Z8 := pZ_wr Z7 a7 (e' := .inr (10, [.int (yI kd), .int (yI nm), .ref b, .ref c]))
      have F67 : pF (fun a => a = r) (1 + (2 * 2 ^ k - 1) + (2 * 2 ^ k - 1)) (4 + (8 * 2 ^ k - 4) + (8 * 2 ^ k - 4)) σ σ7 := pF.trans F6 F7 (fun _ _ q => q.elim id id)
      have F8 := pF_hi F67 Z7 a7 (Nat.le_refl _) (e' := .inr (10, [.int (yI kd), .int (yI nm), .ref b, .ref c]))
      have p8 : pch (xwr σ7 σ.2.1.1 (.inr (10, [.int (yI kd), .int (yI nm), .ref b, .ref c]))) r := by
        obtain ⟨h1, y, h2⟩ := p7
        exact ⟨h1, y, by rw [xwr_1, if_neg (by omega), h2]⟩
      refine ⟨xwr σ7 σ.2.1.1 (.inr (10, [.int (yI kd), .int (yI nm), .ref b, .ref c])), σ.2.1.1, lb ++ lc ++ [-1 - yI kd], fun Q => ?_, ⟨r9, yI kd, yI nm, .ref b, .ref c, pwr_at, Or.inr (Or.inr ⟨?_, b, c, lb, lc, ⟨rfl, rfl⟩, V6'', V7', rfl⟩)⟩, ⟨Z8, p8⟩, F8.mono (fun _ _ q => q) (by omega) (by omega)⟩
      · show G (d + k + 1 + 1) 127 0 [some (.ref r), some (.int (yI (k + 1))), none] [] σ Q ↔ _
        refine (st Q).trans ?_
        simp only [s_127_33, s_127_34, s_127_35, s_127_36, s_127_37, s_127_38, s_127_39, s_127_40, s_127_41, s_127_42, s_127_43, o4, z, zk, g5 _, r9, a5, hb, if_false, hgf_s, hsel_0, hsel_1, hsel_2, hsel_3, hsel_4, hsel_5, hsel_6, hsel_7, hsel_8, hset_0, hset_1, hset_2, hset_3, hset_4, hset_5, hset_6, hset_7, hset_8, hpf_s, hcl_s, hai_s, hpi_0, hpi_1, hln_0, hln_1, List.length_cons, List.length_nil, xwr_1, xwr_2, xnew_1, xnew_n, xnew_s, xnew_z, Nat.reduceLT, ite_true, and_self, hp_8_0, hp_8_1, hn_8_1, hp_8_2, hn_8_2, hp_9_0, hp_9_1, hp_9_2, hp_9_3, hp_9_4, hp_9_5, hn_9_5, hp_9_6, hn_9_6, hp_9_7, hn_9_7, hp_10_0, hp_10_1, hp_10_2, hn_10_2, hp_10_3, hn_10_3, hp_11_0, hp_12_0, hn_12_0, hp_12_1, hp_12_2, hp_12_3, hp_12_4, hp_12_5, hn_12_5, hp_12_6, hn_12_6, hp_12_7, hp_12_8, hp_13_0, hn_13_0, hp_13_1, hp_13_2, hp_13_3, hp_14_0, hn_14_0, hp_14_1, hp_14_2, hp_14_3, xdef_8, xdef_9, xdef_10, xdef_11, xdef_12, xdef_13, xdef_14, Gk_v, Gk_n, xcat_nil, xcat_i, xcat_r, xcat_l, xcat_d, Nat.zero_le, Nat.reduceAdd, Nat.reduceLeDiff, true_and, and_true, ykl_i, ykl_r, ykl_n, ykl_l]
        rw [← e6]
        simp only [s_127_44, s_127_45, s_127_46, s_127_47, s_127_48, s_127_49, s_127_50, s_127_51, s_127_52, zk, g7 _, r9, a7, hc, hgf_s, hsel_0, hsel_1, hsel_2, hsel_3, hsel_4, hsel_5, hsel_6, hsel_7, hsel_8, hset_0, hset_1, hset_2, hset_3, hset_4, hset_5, hset_6, hset_7, hset_8, hpf_s, hcl_s, hai_s, hpi_0, hpi_1, hln_0, hln_1, List.length_cons, List.length_nil, xwr_1, xwr_2, xnew_1, xnew_n, xnew_s, xnew_z, Nat.reduceLT, ite_true, and_self, hp_8_0, hp_8_1, hn_8_1, hp_8_2, hn_8_2, hp_9_0, hp_9_1, hp_9_2, hp_9_3, hp_9_4, hp_9_5, hn_9_5, hp_9_6, hn_9_6, hp_9_7, hn_9_7, hp_10_0, hp_10_1, hp_10_2, hn_10_2, hp_10_3, hn_10_3, hp_11_0, hp_12_0, hn_12_0, hp_12_1, hp_12_2, hp_12_3, hp_12_4, hp_12_5, hn_12_5, hp_12_6, hn_12_6, hp_12_7, hp_12_8, hp_13_0, hn_13_0, hp_13_1, hp_13_2, hp_13_3, hp_14_0, hn_14_0, hp_14_1, hp_14_2, hp_14_3, xdef_8, xdef_9, xdef_10, xdef_11, xdef_12, xdef_13, xdef_14, Gk_v, Gk_n, xcat_nil, xcat_i, xcat_r, xcat_l, xcat_d, Nat.zero_le, Nat.reduceAdd, Nat.reduceLeDiff, true_and, and_true, ykl_i, ykl_r, ykl_n, ykl_l]
      · rcases (by omega : kd = 2 ∨ (kd = 3 ∨ (kd = 4 ∨ kd = 5))) with rfl | rfl | rfl | rfl
        · exact Or.inl rfl
        · exact Or.inr (Or.inl rfl)
        · exact Or.inr (Or.inr (Or.inl rfl))
        · exact Or.inr (Or.inr (Or.inr rfl))
end

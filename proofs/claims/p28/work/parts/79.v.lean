/-! ===== chance; lamps as they are made ===== -/
section
variable {d : Nat} {σ τ : xS} {D : yD} {s l r : Nat} {R : pR} {cv : Value} {dn en : Int32}
/-- the chance's cell -/
abbrev pch (σ : xS) (r : Nat) : Prop := r < 1000000 ∧ ∃ x : Int32, σ.1 r = some (.inr (11, [.int x]))
theorem pch_at {x : Int32} (h : r < 1000000) : pch (xwr σ r (.inr (11, [.int x]))) r := ⟨h, x, by rw [xwr_1, if_pos rfl]⟩
theorem m_131' (h : pch σ r) {b : Nat} (hb : 0 < b) (hb' : b < 65536) : ∃ v x, v < b ∧ Ra d 131 [.ref r, .int (yI b)] σ (.inl (some (.int (yI v)))) (xwr σ r (.inr (11, [.int x]))) := by
  obtain ⟨hr, x0, h1⟩ := h
  exact ⟨prv x0 b, prn x0, Nat.mod_lt _ hb, m_131 hr h1 hb (by omega)⟩
theorem m_206 (h : pch σ r) : ∃ v x, v < 256 ∧ Ra (d + 1) 206 [.ref r] σ (.inl (some (.int (yI v)))) (xwr σ r (.inr (11, [.int x]))) := by
  have hr := h.1
  obtain ⟨x00, hx00⟩ := h.2
  obtain ⟨v1, x1, h1, g1⟩ := m_131' (d := d) h (b := 3) (by decide) (by decide)
  have g1' : Ra d 131 [.ref r, .int 3] σ (.inl (some (.int (yI v1)))) (xwr σ r (.inr (11, [.int x1]))) := g1
  obtain ⟨v2, x2, h2, g2⟩ := m_131' (d := d) (pch_at (σ := σ) (x := x1) hr) (b := 256) (by decide) (by decide)
  rw [pwr_wr] at g2
  have g2' : Ra d 131 [.ref r, .int 256] (xwr σ r (.inr (11, [.int x1]))) (.inl (some (.int (yI v2)))) (xwr σ r (.inr (11, [.int x2]))) := g2
  have o0 : xRd σ r = some (.inr (11, [.int x00])) := by rw [yrd_lt hr, hx00]
  have o1 : xRd (xwr σ r (.inr (11, [.int x1]))) r = some (.inr (11, [.int x1])) := by rw [yrd_lt hr, xwr_1, if_pos rfl]
  by_cases hv : v1 = 0
  · subst hv
    refine ⟨0, x1, by decide, fun Q => ?_⟩
    have z : yI 0 = 0 := rfl
    show G (d + 1) 206 0 [some (.ref r)] [] σ Q ↔ _
    simp only [s_206_0, s_206_1, s_206_2, s_206_3, s_206_4, s_206_5, s_206_6, s_206_7, s_206_8, s_206_9, o0, o1, g1' _, z, ne_eq, not_true_eq_false, if_false, hgf_s, hsel_0, hsel_1, hsel_2, hsel_3, hsel_4, hsel_5, hsel_6, hsel_7, hsel_8, hset_0, hset_1, hset_2, hset_3, hset_4, hset_5, hset_6, hset_7, hset_8, hpf_s, hcl_s, hai_s, hpi_0, hpi_1, hln_0, hln_1, List.length_cons, List.length_nil, xwr_1, xwr_2, xnew_1, xnew_n, xnew_s, xnew_z, Nat.reduceLT, ite_true, and_self, hp_8_0, hp_8_1, hn_8_1, hp_8_2, hn_8_2, hp_9_0, hp_9_1, hp_9_2, hp_9_3, hp_9_4, hp_9_5, hn_9_5, hp_9_6, hn_9_6, hp_9_7, hn_9_7, hp_10_0, hp_10_1, hp_10_2, hn_10_2, hp_10_3, hn_10_3, hp_11_0, hp_12_0, hn_12_0, hp_12_1, hp_12_2, hp_12_3, hp_12_4, hp_12_5, hn_12_5, hp_12_6, hn_12_6, hp_12_7, hp_12_8, hp_13_0, hn_13_0, hp_13_1, hp_13_2, hp_13_3, hp_14_0, hn_14_0, hp_14_1, hp_14_2, hp_14_3, xdef_8, xdef_9, xdef_10, xdef_11, xdef_12, xdef_13, xdef_14, Gk_v, Gk_n, xcat_nil, xcat_i, xcat_r, xcat_l, xcat_d, Nat.zero_le, Nat.reduceAdd, Nat.reduceLeDiff, true_and, and_true, ykl_i, ykl_r, ykl_n, ykl_l]
  · refine ⟨v2, x2, h2, fun Q => ?_⟩
    have z : ¬ yI v1 = 0 := fun q => hv ((yI_inj (m := 0) (by omega) (by decide)).mp q)
    show G (d + 1) 206 0 [some (.ref r)] [] σ Q ↔ _
    simp only [s_206_0, s_206_1, s_206_2, s_206_3, s_206_4, s_206_5, s_206_6, s_206_7, s_206_8, s_206_9, o0, o1, g1' _, g2' _, z, ne_eq, not_false_eq_true, if_true, hgf_s, hsel_0, hsel_1, hsel_2, hsel_3, hsel_4, hsel_5, hsel_6, hsel_7, hsel_8, hset_0, hset_1, hset_2, hset_3, hset_4, hset_5, hset_6, hset_7, hset_8, hpf_s, hcl_s, hai_s, hpi_0, hpi_1, hln_0, hln_1, List.length_cons, List.length_nil, xwr_1, xwr_2, xnew_1, xnew_n, xnew_s, xnew_z, Nat.reduceLT, ite_true, and_self, hp_8_0, hp_8_1, hn_8_1, hp_8_2, hn_8_2, hp_9_0, hp_9_1, hp_9_2, hp_9_3, hp_9_4, hp_9_5, hn_9_5, hp_9_6, hn_9_6, hp_9_7, hn_9_7, hp_10_0, hp_10_1, hp_10_2, hn_10_2, hp_10_3, hn_10_3, hp_11_0, hp_12_0, hn_12_0, hp_12_1, hp_12_2, hp_12_3, hp_12_4, hp_12_5, hn_12_5, hp_12_6, hn_12_6, hp_12_7, hp_12_8, hp_13_0, hn_13_0, hp_13_1, hp_13_2, hp_13_3, hp_14_0, hn_14_0, hp_14_1, hp_14_2, hp_14_3, xdef_8, xdef_9, xdef_10, xdef_11, xdef_12, xdef_13, xdef_14, Gk_v, Gk_n, xcat_nil, xcat_i, xcat_r, xcat_l, xcat_d, Nat.zero_le, Nat.reduceAdd, Nat.reduceLeDiff, true_and, and_true, ykl_i, ykl_r, ykl_n, ykl_l]
theorem pwr_at {a : Nat} {e : xE} : (xwr σ a e).1 a = some e := by rw [xwr_1, if_pos rfl]
theorem pC_z {m : Nat} (hn : σ.2.1.1 < 1000000) : pC (xnew σ (.inl (0, (3, .inl (upd (upd (upd (fun _ => 0) 0 0) 1 0) 2 0)))) m) σ.2.1.1 0 :=
  pC_new hn (by rw [show (16 : Int32) = yI 16 from rfl, yb8_z 16 (by decide)]; rfl) (by rw [show (8 : Int32) = yI 8 from rfl, yb8_z 8 (by decide)]; rfl) (by have := yb8_z 0 (by decide); rw [show (yI 0) = 0 from rfl] at this; rw [this]; rfl)
/-- a row made behind an object that is written next -/
theorem pF_obj {P : Nat → Prop} {c n m : Nat} {σ0 : xS} {e e' x : xE} (F : pF P c n σ0 σ) (hP : P l) (hl : l < σ0.2.1.1) : pF P (c + 1) (n + m) σ0 (xwr (xnew σ e m) l x) := by
  have hl' : l < (xnew σ e m).2.1.1 := by
    show l < σ.2.1.1 + 1
    have := F.2.2.1.1
    omega
  have h := pF.trans (P' := P) (pF_al (m := m) (e := e) F) (pF_wr (P := P) (c := 0) (s := 0) (e := x) hl' hP) (fun _ _ q => q.elim id id)
  exact h
theorem m_123 (hl : l < 1000000) (h : σ.1 l = some (.inr (9, xdef 9))) (Z : pZ σ) (hr : σ.2.1.1 + 3 < 900000) : ∃ τ t u f, Ra d 123 [.ref l] σ (.inl none) τ ∧ (pF (fun b => b = l) 3 9 σ τ ∧ (pZ τ ∧ (τ.1 l = some (plamp 0 0 0 0 (-1) t u f) ∧ ((t < σ.2.1.1 + 3 ∧ pC τ t 0) ∧ (pC τ u 0 ∧ pC τ f 0))))) := by
  have hln := pZ_lt Z h
  have n1 : ¬ (3 : Int32) < 0 := by decide
  have n2 : (3 : Nat) ≤ 100000 := by decide
  -- the origin
  have a1 : (xwr σ l (.inr (9, [.int 0, .int 0, .int 0, .int 0, .int (-1), .null, .null, .null]))).1 l = some (.inr (9, [.int 0, .int 0, .int 0, .int 0, .int (-1), .null, .null, .null])) := pwr_at
  have F1 : pF (fun b => b = l) 0 0 σ (xwr σ l (.inr (9, [.int 0, .int 0, .int 0, .int 0, .int (-1), .null, .null, .null]))) := pF_wr hln rfl
  have Z1 := pZ_wr Z h (e' := .inr (9, [.int 0, .int 0, .int 0, .int 0, .int (-1), .null, .null, .null]))
  have x1 : (xwr σ l (.inr (9, [.int 0, .int 0, .int 0, .int 0, .int (-1), .null, .null, .null]))).2.1.1 = σ.2.1.1 := rfl
  obtain ⟨σ1, e1⟩ : ∃ σ1, σ1 = xwr σ l (.inr (9, [.int 0, .int 0, .int 0, .int 0, .int (-1), .null, .null, .null])) := ⟨_, rfl⟩
  rw [← e1] at a1 F1 Z1 x1
  -- what it took
  have m1 : ∀ e m, (xnew σ1 e m).1 l = some (.inr (9, [.int 0, .int 0, .int 0, .int 0, .int (-1), .null, .null, .null])) := fun e m => by rw [xnew_1, if_neg (by omega), a1]
  have a2 : (xwr (xnew σ1 (.inl (0, (3, .inl (upd (upd (upd (fun _ => 0) 0 0) 1 0) 2 0)))) 3) l (.inr (9, [.int 0, .int 0, .int 0, .int 0, .int (-1), .ref σ1.2.1.1, .null, .null]))).1 l = some (.inr (9, [.int 0, .int 0, .int 0, .int 0, .int (-1), .ref σ1.2.1.1, .null, .null])) := pwr_at
  have F2 : pF (fun b => b = l) (0 + 1) (0 + 3) σ (xwr (xnew σ1 (.inl (0, (3, .inl (upd (upd (upd (fun _ => 0) 0 0) 1 0) 2 0)))) 3) l (.inr (9, [.int 0, .int 0, .int 0, .int 0, .int (-1), .ref σ1.2.1.1, .null, .null]))) := pF_obj (e' := .inr (9, [])) F1 rfl hln
  have Z2 := pZ_wr (pZ_new (e := .inl (0, (3, .inl (upd (upd (upd (fun _ => 0) 0 0) 1 0) 2 0)))) (m := 3) Z1) (m1 _ _) (e' := .inr (9, [.int 0, .int 0, .int 0, .int 0, .int (-1), .ref σ1.2.1.1, .null, .null]))
  have c2 : pC (xwr (xnew σ1 (.inl (0, (3, .inl (upd (upd (upd (fun _ => 0) 0 0) 1 0) 2 0)))) 3) l (.inr (9, [.int 0, .int 0, .int 0, .int 0, .int (-1), .ref σ1.2.1.1, .null, .null]))) σ1.2.1.1 0 := by
    obtain ⟨h0, c, h3, h4⟩ := pC_z (σ := σ1) (m := 3) (by omega)
    exact ⟨h0, c, by rw [xwr_1, if_neg (by omega)]; exact h3, h4⟩
  have x2 : (xwr (xnew σ1 (.inl (0, (3, .inl (upd (upd (upd (fun _ => 0) 0 0) 1 0) 2 0)))) 3) l (.inr (9, [.int 0, .int 0, .int 0, .int 0, .int (-1), .ref σ1.2.1.1, .null, .null]))).2.1.1 = σ1.2.1.1 + 1 := rfl
  obtain ⟨σ2, e2⟩ : ∃ σ2, σ2 = xwr (xnew σ1 (.inl (0, (3, .inl (upd (upd (upd (fun _ => 0) 0 0) 1 0) 2 0)))) 3) l (.inr (9, [.int 0, .int 0, .int 0, .int 0, .int (-1), .ref σ1.2.1.1, .null, .null])) := ⟨_, rfl⟩
  rw [← e2] at a2 F2 Z2 c2 x2
  -- what it is due
  have m2 : ∀ e m, (xnew σ2 e m).1 l = some (.inr (9, [.int 0, .int 0, .int 0, .int 0, .int (-1), .ref σ1.2.1.1, .null, .null])) := fun e m => by rw [xnew_1, if_neg (by omega), a2]
  have a3 : (xwr (xnew σ2 (.inl (0, (3, .inl (upd (upd (upd (fun _ => 0) 0 0) 1 0) 2 0)))) 3) l (.inr (9, [.int 0, .int 0, .int 0, .int 0, .int (-1), .ref σ1.2.1.1, .ref σ2.2.1.1, .null]))).1 l = some (.inr (9, [.int 0, .int 0, .int 0, .int 0, .int (-1), .ref σ1.2.1.1, .ref σ2.2.1.1, .null])) := pwr_at
  have F3 : pF (fun b => b = l) (0 + 1 + 1) (0 + 3 + 3) σ (xwr (xnew σ2 (.inl (0, (3, .inl (upd (upd (upd (fun _ => 0) 0 0) 1 0) 2 0)))) 3) l (.inr (9, [.int 0, .int 0, .int 0, .int 0, .int (-1), .ref σ1.2.1.1, .ref σ2.2.1.1, .null]))) := pF_obj (e' := .inr (9, [])) F2 rfl hln
  have Z3 := pZ_wr (pZ_new (e := .inl (0, (3, .inl (upd (upd (upd (fun _ => 0) 0 0) 1 0) 2 0)))) (m := 3) Z2) (m2 _ _) (e' := .inr (9, [.int 0, .int 0, .int 0, .int 0, .int (-1), .ref σ1.2.1.1, .ref σ2.2.1.1, .null]))
  have kp : ∀ {b : Nat} {y : xS} {x : xE} {m : Nat}, b ≠ l → pZ y → pC y b 0 → ∀ e, pC (xwr (xnew y x m) l e) b 0 := by
    intro b y x m hb Zy hc e
    obtain ⟨h0, c, h3, h4⟩ := pC_new' (e := x) (m := m) Zy hc
    exact ⟨h0, c, by rw [xwr_1, if_neg hb]; exact h3, h4⟩
  have c3 := kp (x := .inl (0, (3, .inl (upd (upd (upd (fun _ => 0) 0 0) 1 0) 2 0)))) (m := 3) (show σ1.2.1.1 ≠ l by omega) Z2 c2 (.inr (9, [.int 0, .int 0, .int 0, .int 0, .int (-1), .ref σ1.2.1.1, .ref σ2.2.1.1, .null]))
  have d3 : pC (xwr (xnew σ2 (.inl (0, (3, .inl (upd (upd (upd (fun _ => 0) 0 0) 1 0) 2 0)))) 3) l (.inr (9, [.int 0, .int 0, .int 0, .int 0, .int (-1), .ref σ1.2.1.1, .ref σ2.2.1.1, .null]))) σ2.2.1.1 0 := by
    obtain ⟨h0, c, h3, h4⟩ := pC_z (σ := σ2) (m := 3) (by omega)
    exact ⟨h0, c, by rw [xwr_1, if_neg (by omega)]; exact h3, h4⟩
  have x3 : (xwr (xnew σ2 (.inl (0, (3, .inl (upd (upd (upd (fun _ => 0) 0 0) 1 0) 2 0)))) 3) l (.inr (9, [.int 0, .int 0, .int 0, .int 0, .int (-1), .ref σ1.2.1.1, .ref σ2.2.1.1, .null]))).2.1.1 = σ2.2.1.1 + 1 := rfl
  obtain ⟨σ3, e3⟩ : ∃ σ3, σ3 = xwr (xnew σ2 (.inl (0, (3, .inl (upd (upd (upd (fun _ => 0) 0 0) 1 0) 2 0)))) 3) l (.inr (9, [.int 0, .int 0, .int 0, .int 0, .int (-1), .ref σ1.2.1.1, .ref σ2.2.1.1, .null])) := ⟨_, rfl⟩
  rw [← e3] at a3 F3 Z3 c3 d3 x3
  -- its frame
  have m3 : ∀ e m, (xnew σ3 e m).1 l = some (.inr (9, [.int 0, .int 0, .int 0, .int 0, .int (-1), .ref σ1.2.1.1, .ref σ2.2.1.1, .null])) := fun e m => by rw [xnew_1, if_neg (by omega), a3]
  have F4 : pF (fun b => b = l) (0 + 1 + 1 + 1) (0 + 3 + 3 + 3) σ (xwr (xnew σ3 (.inl (0, (3, .inl (upd (upd (upd (fun _ => 0) 0 0) 1 0) 2 0)))) 3) l (plamp 0 0 0 0 (-1) σ1.2.1.1 σ2.2.1.1 σ3.2.1.1)) := pF_obj (e' := .inr (9, [])) F3 rfl hln
  have Z4 := pZ_wr (pZ_new (e := .inl (0, (3, .inl (upd (upd (upd (fun _ => 0) 0 0) 1 0) 2 0)))) (m := 3) Z3) (m3 _ _) (e' := plamp 0 0 0 0 (-1) σ1.2.1.1 σ2.2.1.1 σ3.2.1.1)
  have c4 := kp (x := .inl (0, (3, .inl (upd (upd (upd (fun _ => 0) 0 0) 1 0) 2 0)))) (m := 3) (show σ1.2.1.1 ≠ l by omega) Z3 c3 (plamp 0 0 0 0 (-1) σ1.2.1.1 σ2.2.1.1 σ3.2.1.1)
  have d4 := kp (x := .inl (0, (3, .inl (upd (upd (upd (fun _ => 0) 0 0) 1 0) 2 0)))) (m := 3) (show σ2.2.1.1 ≠ l by omega) Z3 d3 (plamp 0 0 0 0 (-1) σ1.2.1.1 σ2.2.1.1 σ3.2.1.1)
  have f4 : pC (xwr (xnew σ3 (.inl (0, (3, .inl (upd (upd (upd (fun _ => 0) 0 0) 1 0) 2 0)))) 3) l (plamp 0 0 0 0 (-1) σ1.2.1.1 σ2.2.1.1 σ3.2.1.1)) σ3.2.1.1 0 := by
    obtain ⟨h0, c, h3, h4⟩ := pC_z (σ := σ3) (m := 3) (by omega)
    exact ⟨h0, c, by rw [xwr_1, if_neg (by omega)]; exact h3, h4⟩
  refine ⟨xwr (xnew σ3 (.inl (0, (3, .inl (upd (upd (upd (fun _ => 0) 0 0) 1 0) 2 0)))) 3) l (plamp 0 0 0 0 (-1) σ1.2.1.1 σ2.2.1.1 σ3.2.1.1), σ1.2.1.1, σ2.2.1.1, σ3.2.1.1, fun Q => ?_, F4.mono (fun _ _ q => q) (by omega) (by omega), Z4, pwr_at, ⟨by omega, c4⟩, d4, f4⟩
  have r1 : σ1.2.1.1 < 900000 := by omega
  have r2 : σ2.2.1.1 < 900000 := by omega
  have r3 : σ3.2.1.1 < 900000 := by omega
  have r1' : σ1.2.1.1 < 1000000 := by omega
  have r2' : σ2.2.1.1 < 1000000 := by omega
  have r3' : σ3.2.1.1 < 1000000 := by omega
  show G d 123 0 [some (.ref l)] [] σ Q ↔ _
  simp only [s_123_0, s_123_1, s_123_2, s_123_3, s_123_4, h, hl, xdef_9, hgf_s, hsel_0, hsel_1, hsel_2, hsel_3, hsel_4, hsel_5, hsel_6, hsel_7, hsel_8, hset_0, hset_1, hset_2, hset_3, hset_4, hset_5, hset_6, hset_7, hset_8, hpf_s, hcl_s, hai_s, hpi_0, hpi_1, hln_0, hln_1, List.length_cons, List.length_nil, xwr_1, xwr_2, xnew_1, xnew_n, xnew_s, xnew_z, Nat.reduceLT, ite_true, and_self, hp_8_0, hp_8_1, hn_8_1, hp_8_2, hn_8_2, hp_9_0, hp_9_1, hp_9_2, hp_9_3, hp_9_4, hp_9_5, hn_9_5, hp_9_6, hn_9_6, hp_9_7, hn_9_7, hp_10_0, hp_10_1, hp_10_2, hn_10_2, hp_10_3, hn_10_3, hp_11_0, hp_12_0, hn_12_0, hp_12_1, hp_12_2, hp_12_3, hp_12_4, hp_12_5, hn_12_5, hp_12_6, hn_12_6, hp_12_7, hp_12_8, hp_13_0, hn_13_0, hp_13_1, hp_13_2, hp_13_3, hp_14_0, hn_14_0, hp_14_1, hp_14_2, hp_14_3, xdef_8, xdef_9, xdef_10, xdef_11, xdef_12, xdef_13, xdef_14, Gk_v, Gk_n, xcat_nil, xcat_i, xcat_r, xcat_l, xcat_d, Nat.zero_le, Nat.reduceAdd, Nat.reduceLeDiff, true_and, and_true, ykl_i, ykl_r, ykl_n, ykl_l]
  rw [← e1]
  simp only [s_123_5, s_123_6, s_123_7, s_123_8, s_123_8i, s_123_9, s_123_10, s_123_11, s_123_12, s_123_12i, s_123_13, s_123_14, s_123_15, s_123_16, s_123_16i, s_123_17, s_123_18, s_123_19, s_123_20, hl, m1, n1, n2, ycl_3, r1, r1', yix3_0, yix3_1, yix3_2, ycl_0, ycl_1, ycl_2, pnew_at, pwr_nw, not_false_eq_true, hgf_s, hsel_0, hsel_1, hsel_2, hsel_3, hsel_4, hsel_5, hsel_6, hsel_7, hsel_8, hset_0, hset_1, hset_2, hset_3, hset_4, hset_5, hset_6, hset_7, hset_8, hpf_s, hcl_s, hai_s, hpi_0, hpi_1, hln_0, hln_1, List.length_cons, List.length_nil, xwr_1, xwr_2, xnew_1, xnew_n, xnew_s, xnew_z, Nat.reduceLT, ite_true, and_self, hp_8_0, hp_8_1, hn_8_1, hp_8_2, hn_8_2, hp_9_0, hp_9_1, hp_9_2, hp_9_3, hp_9_4, hp_9_5, hn_9_5, hp_9_6, hn_9_6, hp_9_7, hn_9_7, hp_10_0, hp_10_1, hp_10_2, hn_10_2, hp_10_3, hn_10_3, hp_11_0, hp_12_0, hn_12_0, hp_12_1, hp_12_2, hp_12_3, hp_12_4, hp_12_5, hn_12_5, hp_12_6, hn_12_6, hp_12_7, hp_12_8, hp_13_0, hn_13_0, hp_13_1, hp_13_2, hp_13_3, hp_14_0, hn_14_0, hp_14_1, hp_14_2, hp_14_3, xdef_8, xdef_9, xdef_10, xdef_11, xdef_12, xdef_13, xdef_14, Gk_v, Gk_n, xcat_nil, xcat_i, xcat_r, xcat_l, xcat_d, Nat.zero_le, Nat.reduceAdd, Nat.reduceLeDiff, true_and, and_true, ykl_i, ykl_r, ykl_n, ykl_l]
  rw [← e2]
  simp only [s_123_21, s_123_22, s_123_23, s_123_24, s_123_24i, s_123_25, s_123_26, s_123_27, s_123_28, s_123_28i, s_123_29, s_123_30, s_123_31, s_123_32, s_123_32i, s_123_33, s_123_34, s_123_35, s_123_36, hl, m2, n1, n2, ycl_3, r2, r2', yix3_0, yix3_1, yix3_2, ycl_0, ycl_1, ycl_2, pnew_at, pwr_nw, not_false_eq_true, hgf_s, hsel_0, hsel_1, hsel_2, hsel_3, hsel_4, hsel_5, hsel_6, hsel_7, hsel_8, hset_0, hset_1, hset_2, hset_3, hset_4, hset_5, hset_6, hset_7, hset_8, hpf_s, hcl_s, hai_s, hpi_0, hpi_1, hln_0, hln_1, List.length_cons, List.length_nil, xwr_1, xwr_2, xnew_1, xnew_n, xnew_s, xnew_z, Nat.reduceLT, ite_true, and_self, hp_8_0, hp_8_1, hn_8_1, hp_8_2, hn_8_2, hp_9_0, hp_9_1, hp_9_2, hp_9_3, hp_9_4, hp_9_5, hn_9_5, hp_9_6, hn_9_6, hp_9_7, hn_9_7, hp_10_0, hp_10_1, hp_10_2, hn_10_2, hp_10_3, hn_10_3, hp_11_0, hp_12_0, hn_12_0, hp_12_1, hp_12_2, hp_12_3, hp_12_4, hp_12_5, hn_12_5, hp_12_6, hn_12_6, hp_12_7, hp_12_8, hp_13_0, hn_13_0, hp_13_1, hp_13_2, hp_13_3, hp_14_0, hn_14_0, hp_14_1, hp_14_2, hp_14_3, xdef_8, xdef_9, xdef_10, xdef_11, xdef_12, xdef_13, xdef_14, Gk_v, Gk_n, xcat_nil, xcat_i, xcat_r, xcat_l, xcat_d, Nat.zero_le, Nat.reduceAdd, Nat.reduceLeDiff, true_and, and_true, ykl_i, ykl_r, ykl_n, ykl_l]
  rw [← e3]
  simp only [s_123_37, s_123_38, s_123_39, s_123_40, s_123_40i, s_123_41, s_123_42, s_123_43, s_123_44, s_123_44i, s_123_45, s_123_46, s_123_47, s_123_48, s_123_48i, s_123_49, s_123_50, s_123_51, s_123_52, s_123_53, hl, m3, n1, n2, ycl_3, r3, r3', yix3_0, yix3_1, yix3_2, ycl_0, ycl_1, ycl_2, pnew_at, pwr_nw, not_false_eq_true, hgf_s, hsel_0, hsel_1, hsel_2, hsel_3, hsel_4, hsel_5, hsel_6, hsel_7, hsel_8, hset_0, hset_1, hset_2, hset_3, hset_4, hset_5, hset_6, hset_7, hset_8, hpf_s, hcl_s, hai_s, hpi_0, hpi_1, hln_0, hln_1, List.length_cons, List.length_nil, xwr_1, xwr_2, xnew_1, xnew_n, xnew_s, xnew_z, Nat.reduceLT, ite_true, and_self, hp_8_0, hp_8_1, hn_8_1, hp_8_2, hn_8_2, hp_9_0, hp_9_1, hp_9_2, hp_9_3, hp_9_4, hp_9_5, hn_9_5, hp_9_6, hn_9_6, hp_9_7, hn_9_7, hp_10_0, hp_10_1, hp_10_2, hn_10_2, hp_10_3, hn_10_3, hp_11_0, hp_12_0, hn_12_0, hp_12_1, hp_12_2, hp_12_3, hp_12_4, hp_12_5, hn_12_5, hp_12_6, hn_12_6, hp_12_7, hp_12_8, hp_13_0, hn_13_0, hp_13_1, hp_13_2, hp_13_3, hp_14_0, hn_14_0, hp_14_1, hp_14_2, hp_14_3, xdef_8, xdef_9, xdef_10, xdef_11, xdef_12, xdef_13, xdef_14, Gk_v, Gk_n, xcat_nil, xcat_i, xcat_r, xcat_l, xcat_d, Nat.zero_le, Nat.reduceAdd, Nat.reduceLeDiff, true_and, and_true, ykl_i, ykl_r, ykl_n, ykl_l]
end

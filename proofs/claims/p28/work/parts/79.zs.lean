/-! ===== strips by chance: the level, the curve ===== -/
section
variable {d : Nat} {D : yD} {b r s c x : Nat} {σ σ0 τ : xS} {t0 : yT} {l w : List Nat} {R : pR} {cv : Value} {dn en : Int32} {lo hi c' s' p : Nat}
variable {D0 : yD} {k0 : Nat} {E0 : Nat → yD} {s0 s1 : Option yD} {n0 : Nat} {B0 : Nat → Nat} {eo en' : Int32}
theorem pV_le : ∀ k k' a l, k ≤ k' → pV σ k a l → pV σ k' a l := by
  intro k
  induction k with
  | zero => intro k' a l _ h; exact h.elim
  | succ k ih =>
    intro k' a l hk h
    obtain ⟨k', rfl⟩ : ∃ q, k' = q + 1 := ⟨k' - 1, by omega⟩
    obtain ⟨ha, kd, nm, u, v, hc, h⟩ := h
    refine ⟨ha, kd, nm, u, v, hc, ?_⟩
    rcases h with h | h | ⟨h1, b, c, lb, lc, h2, h3, h4, h5⟩
    · exact Or.inl h
    · exact Or.inr (Or.inl h)
    · exact Or.inr (Or.inr ⟨h1, b, c, lb, lc, h2, ih _ _ _ (by omega) h3, ih _ _ _ (by omega) h4, h5⟩)
theorem pV_len : ∀ k a l, pV σ k a l → 1 ≤ l.length := by
  intro k
  cases k with
  | zero => intro a l h; exact h.elim
  | succ k =>
    intro a l h
    obtain ⟨ha, kd, nm, u, v, hc, h⟩ := h
    rcases h with ⟨-, m, -, -, rfl⟩ | ⟨-, ⟨-, rfl⟩ | ⟨-, rfl⟩⟩ | ⟨h1, b, c, lb, lc, h2, h3, h4, rfl⟩
    · exact Nat.le_refl 1
    · exact Nat.le_refl 1
    · exact Nat.le_refl 1
    · simp only [List.length_append, List.length_cons, List.length_nil]
      omega
theorem pU.cvr (B : pU lo hi s cv dn en σ0 c' s' σ R D) {cv' : Value} {n : Nat} {g : Nat → Int32} : pU lo hi s cv' dn en σ0 c' s' (xwr σ s (.inr (12, [.ref R.lr, .int D.un, .int D.lv, .int D.sh, .int D.ac, .ref R.fr, cv', .int dn, .int en]))) R (D.scv n g) := by
  obtain ⟨S, Z, J, F⟩ := B
  exact ⟨S.strip (D' := D.scv n g) rfl rfl rfl rfl (fun q => ⟨rfl, rfl, rfl, rfl, rfl, rfl, rfl, rfl, rfl, rfl, rfl⟩), pZ_wr Z S.1.2, J.to ⟨rfl, rfl, rfl, rfl⟩ rfl rfl, pF_own F Z S.1.2 pco_strip J.1⟩
/-- the level -/
theorem l_207h (X0 : pX0 b r σ0 t0) (C : yCI t0 D0 k0 E0 s0 s1 n0 B0 eo en') {N fb : Nat} (hD : yDok D) (hDn : D.n = N) (A : pR7 b r σ0 t0 s c x σ l R D cv) (hl : l.length ≤ 310) (P : pRd l (D, (fb, (false, false)))) (hr : σ.2.1.1 + 2 < 900000) {l4 l5 l6 l7 l8 l9 l10 : Option Value} : ∃ τ l' D' lf, (∀ Q, G (d + 20) 207 323 [some (.ref 0), some (.ref b), some (.ref r), some (.ref s), l4, l5, l6, l7, l8, l9, l10] [] σ Q ↔ G (d + 20) 207 348 [some (.ref 0), some (.ref b), some (.ref r), some (.ref s), l4, l5, l6, l7, l8, l9, l10] [] τ Q) ∧ (pR7 b r σ0 t0 s (c + 1) (x + 1) τ l' R D' cv ∧ ((pRd l' (D', (fb, (lf, false))) ∧ l'.length ≤ 330) ∧ (yDok D' ∧ (D'.n = N ∧ (D'.cn = D.cn ∧ pfr D' 0 = pfr D 0))))) := by
  obtain ⟨v1, τ1, hv1, g1, ⟨A1, e1⟩, -⟩ := A.go (d := d + 19) X0 (m := 3) (by decide) (by decide)
  have g1' : Ra (d + 19) 131 [.ref r, .int 3] σ (.inl (some (.int (yI v1)))) τ1 := g1
  obtain ⟨f1, or1⟩ := A.or
  obtain ⟨f2, or2⟩ := A1.or
  have hs := A.2.1.1.1
  by_cases hv0 : v1 = 0
  · have z : yI v1 = 0 := by rw [hv0]; rfl
    obtain ⟨v2, τ2, hv2, g2, ⟨A2, e2⟩, -⟩ := A1.go (d := d + 19) X0 (m := 256) (by decide) (by decide)
    have g2' : Ra (d + 19) 131 [.ref r, .int 256] τ1 (.inl (some (.int (yI v2)))) τ2 := g2
    have B3 : pU σ0.2.1.1 τ2.2.1.1 s cv 0 0 τ2 0 0 (xwr τ2 s (.inr (12, [.ref R.lr, .int D.un, .int (yI v2), .int D.sh, .int D.ac, .ref R.fr, cv, .int 0, .int 0]))) R (D.slv (yI v2)) := (A2.pu X0).strip (D' := D.slv (yI v2)) rfl rfl rfl rfl (fun q => ⟨rfl, rfl, rfl, rfl, rfl, rfl, rfl, rfl, rfl, rfl, rfl⟩) rfl
    have A3 := A2.up X0 B3
    obtain ⟨E, hE⟩ : ∃ E, E = D.slv (yI v2) := ⟨_, rfl⟩
    rw [← hE] at A3
    obtain ⟨τ3, e3⟩ : ∃ τ3, τ3 = xwr τ2 s (.inr (12, [.ref R.lr, .int D.un, .int (yI v2), .int D.sh, .int D.ac, .ref R.fr, cv, .int 0, .int 0])) := ⟨_, rfl⟩
    rw [← e3] at A3
    have hnx3 := A3.nx X0
    have x3 : τ3.2.1.1 = σ.2.1.1 := by
      rw [e3]
      show τ2.2.1.1 = _
      rw [e2, e1]
    have A4 : pR7 b r σ0 t0 s (c + 0 + 1) (x + 0 + 1) (xnew τ3 (.inl (0, (1, .inl (upd (fun _ => 0) 0 (yI v2))))) 1) l R E cv := A3.new X0
    have q4 : (xnew τ3 (.inl (0, (1, .inl (upd (fun _ => 0) 0 (yI v2))))) 1).1 τ3.2.1.1 = some (pints 1 (upd (fun _ => 0) 0 (yI v2))) := pnew_at
    have w7 : ywl 7 = 5 := by decide
    have w24 : ywl 24 = 1 := by decide
    obtain ⟨τ4, k4, A5, F5⟩ := A4.all (d := d) X0 C (i := 7) (by decide) (M := 1) (N := 1) (v := fun _ => v2) (Nat.le_refl _) (by decide) (fun j hj => by
      have : j = 0 := by omega
      subst this
      exact ⟨rfl, by show v2 < 10000; omega⟩) (nr := τ3.2.1.1) ⟨hnx3.1, by omega⟩ q4 (by rw [w7]; omega)
    have hl2 := pnm_len (v := fun _ => v2) 1 0
    obtain ⟨τ5, k5, A6, F6⟩ := A5.semi (d := d) X0 C (i := 24) (by decide) (by rw [w24]; simp only [List.length_append, ptw_len, w7]; omega)
    have e24 : ptw 24 = [59] := by decide
    rw [e24] at A6
    have P2 := pRd_st P (pSt_level (v := fun _ => v2) (U := (D, (fb, (false, false)))) hv2 rfl)
    refine ⟨τ5, _, E, true, fun Q => ?_, A6, ⟨?_, ?_⟩, ?_, ?_, ?_, ?_⟩
    · have n3 : ¬ (1 : Int32) < 0 := by decide
      have n4 : (1 : Nat) ≤ 100000 := by decide
      have c1 : (1 : Int32).toNatClampNeg = 1 := rfl
      have y10 : yix 0 1 := by unfold yix; decide
      have r3 : τ3.2.1.1 < 900000 := by omega
      have r3' : τ3.2.1.1 < 1000000 := by omega
      have o2 := A2.2.1.1.2
      have o3 : ∀ e m, xRd (xnew τ3 e m) s = _ := fun e m => prd_new (A3.1.Z X0) hs A3.2.1.ob
      have hElv : E.lv = yI v2 := by rw [hE]; rfl
      have k4' : Ra (d + 19) 205 [.ref 0, .ref b, .ref 1000107, .int 1, .ref τ3.2.1.1] (xnew τ3 (.inl (0, (1, .inl (upd (fun _ => 0) 0 (yI v2))))) 1) (.inl none) τ4 := k4
      have k5' : Ra (d + 19) 182 [.ref 0, .ref b, .ref 1000124] τ4 (.inl none) τ5 := k5
      simp only [s_207_323, s_207_324, s_207_325, s_207_326, s_207_327, s_207_328, s_207_329, s_207_330, s_207_331, or1, or2, g1' _, g2' _, z, o2, hs, ne_eq, not_true_eq_false, if_false, hgf_s, hsel_0, hsel_1, hsel_2, hsel_3, hsel_4, hsel_5, hsel_6, hsel_7, hsel_8, hset_0, hset_1, hset_2, hset_3, hset_4, hset_5, hset_6, hset_7, hset_8, hpf_s, hcl_s, hai_s, hpi_0, hpi_1, hln_0, hln_1, List.length_cons, List.length_nil, xwr_1, xwr_2, xnew_1, xnew_n, xnew_s, xnew_z, Nat.reduceLT, ite_true, and_self, hp_8_0, hp_8_1, hn_8_1, hp_8_2, hn_8_2, hp_9_0, hp_9_1, hp_9_2, hp_9_3, hp_9_4, hp_9_5, hn_9_5, hp_9_6, hn_9_6, hp_9_7, hn_9_7, hp_10_0, hp_10_1, hp_10_2, hn_10_2, hp_10_3, hn_10_3, hp_11_0, hp_12_0, hn_12_0, hp_12_1, hp_12_2, hp_12_3, hp_12_4, hp_12_5, hn_12_5, hp_12_6, hn_12_6, hp_12_7, hp_12_8, hp_13_0, hn_13_0, hp_13_1, hp_13_2, hp_13_3, hp_14_0, hn_14_0, hp_14_1, hp_14_2, hp_14_3, xdef_8, xdef_9, xdef_10, xdef_11, xdef_12, xdef_13, xdef_14, Gk_v, Gk_n, xcat_nil, xcat_i, xcat_r, xcat_l, xcat_d, Nat.zero_le, Nat.reduceAdd, Nat.reduceLeDiff, true_and, and_true, ykl_i, ykl_r, ykl_n, ykl_l]
      rw [← e3]
      simp only [s_207_332, s_207_333, s_207_334, s_207_335, s_207_336, s_207_337, s_207_338, s_207_338i, s_207_339, s_207_340, s_207_341, s_207_342, s_207_343, s_207_344, s_207_345, s_207_346, s_207_347, n3, n4, c1, r3, r3', y10, ycl_0, o3, hElv, pnew_at, pwr_nw, k4' _, k5' _, not_false_eq_true, hgf_s, hsel_0, hsel_1, hsel_2, hsel_3, hsel_4, hsel_5, hsel_6, hsel_7, hsel_8, hset_0, hset_1, hset_2, hset_3, hset_4, hset_5, hset_6, hset_7, hset_8, hpf_s, hcl_s, hai_s, hpi_0, hpi_1, hln_0, hln_1, List.length_cons, List.length_nil, xwr_1, xwr_2, xnew_1, xnew_n, xnew_s, xnew_z, Nat.reduceLT, ite_true, and_self, hp_8_0, hp_8_1, hn_8_1, hp_8_2, hn_8_2, hp_9_0, hp_9_1, hp_9_2, hp_9_3, hp_9_4, hp_9_5, hn_9_5, hp_9_6, hn_9_6, hp_9_7, hn_9_7, hp_10_0, hp_10_1, hp_10_2, hn_10_2, hp_10_3, hn_10_3, hp_11_0, hp_12_0, hn_12_0, hp_12_1, hp_12_2, hp_12_3, hp_12_4, hp_12_5, hn_12_5, hp_12_6, hn_12_6, hp_12_7, hp_12_8, hp_13_0, hn_13_0, hp_13_1, hp_13_2, hp_13_3, hp_14_0, hn_14_0, hp_14_1, hp_14_2, hp_14_3, xdef_8, xdef_9, xdef_10, xdef_11, xdef_12, xdef_13, xdef_14, Gk_v, Gk_n, xcat_nil, xcat_i, xcat_r, xcat_l, xcat_d, Nat.zero_le, Nat.reduceAdd, Nat.reduceLeDiff, true_and, and_true, ykl_i, ykl_r, ykl_n, ykl_l]
    · rw [hE, List.append_assoc]
      exact P2
    · simp only [List.length_append, List.length_cons, List.length_nil, ptw_len, w7]
      omega
    · rw [hE]; exact yDok_slv hD hv2
    · rw [hE]; exact hDn
    · rw [hE]; rfl
    · rw [hE]; rfl
  · have z : ¬ yI v1 = 0 := fun e => hv0 ((yI_inj (m := 0) (by omega) (by decide)).mp e)
    refine ⟨τ1, l, D, false, fun Q => ?_, ?_, ⟨P, by omega⟩, hD, hDn, rfl, rfl⟩
    · simp only [s_207_323, s_207_324, s_207_325, s_207_326, or1, g1' _, z, ne_eq, not_false_eq_true, if_true, hcl_s, true_and, Gk_v, Gk_n, xcat_nil, xcat_i, xcat_r, xcat_l, xcat_d, Nat.zero_le, Nat.reduceAdd, Nat.reduceLeDiff, true_and, and_true, ykl_i, ykl_r, ykl_n, ykl_l]
    · obtain ⟨⟨q1, q2, q3, q4, q5⟩, q6⟩ := A1
      exact ⟨⟨q1, q2, q3, q4.mono (fun _ _ q => q) (by omega) (by omega), q5⟩, q6⟩
/-- the curve -/
theorem l_207i (X0 : pX0 b r σ0 t0) (C : yCI t0 D0 k0 E0 s0 s1 n0 B0 eo en') {N fb : Nat} {lf : Bool} (hDn : D.n = N) (hcn : D.cn = 0) (A : pR7 b r σ0 t0 s c x σ l R D .null) (hl : l.length ≤ 330) (P : pRd l (D, (fb, (lf, false)))) (hr : σ.2.1.1 + 200 < 900000) {l4 l5 l6 l7 l8 l9 l10 : Option Value} : ∃ τ l' D' cv' cf, (∀ Q, G (d + 20) 207 348 [some (.ref 0), some (.ref b), some (.ref r), some (.ref s), l4, l5, l6, l7, l8, l9, l10] [] σ Q ↔ G (d + 20) 207 374 [some (.ref 0), some (.ref b), some (.ref r), some (.ref s), l4, l5, l6, l7, l8, l9, l10] [] τ Q) ∧ (pR7 b r σ0 t0 s (c + 150) (x + 15000) τ l' R D' cv' ∧ ((pRd l' (D', (fb, (lf, cf))) ∧ l'.length ≤ 400) ∧ (pcv τ cv' D' ∧ (D'.n = N ∧ pfr D' 0 = pfr D 0)))) := by
  have hlo := X0.lo
  obtain ⟨v1, τ1, hv1, g1, ⟨A1, e1⟩, -⟩ := A.go (d := d + 19) X0 (m := 2) (by decide) (by decide)
  have g1' : Ra (d + 19) 131 [.ref r, .int 2] σ (.inl (some (.int (yI v1)))) τ1 := g1
  obtain ⟨f1, or1⟩ := A.or
  obtain ⟨f2, or2⟩ := A1.or
  have hs := A.2.1.1.1
  by_cases hv0 : v1 = 0
  · have z : yI v1 = 0 := by rw [hv0]; rfl
    obtain ⟨k, τ2, hk, g2, ⟨A2, e2⟩, -⟩ := A1.go (d := d + 19) X0 (m := 3) (by decide) (by decide)
    have g2' : Ra (d + 19) 131 [.ref r, .int 3] τ1 (.inl (some (.int (yI k)))) τ2 := g2
    have x2 : τ2.2.1.1 = σ.2.1.1 := by rw [e2, e1]
    -- a curve
    have hN : ∃ τ3 a ls, Ra (d + 19) 127 [.ref r, .int (yI k)] τ2 (.inl (some (.ref a))) τ3 ∧ (pV τ3 (k + 1) a ls ∧ ((pZ τ3 ∧ pch τ3 r) ∧ pF (fun a => a = r) 7 28 τ2 τ3)) := by
      rcases (by omega : k = 0 ∨ (k = 1 ∨ k = 2)) with rfl | rfl | rfl
      · obtain ⟨τ3, a, ls, q1, q2, q3, q4⟩ := m_127 (d := d + 18) (r := r) 0 τ2 A2.1.2.2.1 (A2.1.Z X0) (by decide) (by rw [show (2 : Nat) ^ 0 = 1 from rfl]; omega)
        exact ⟨τ3, a, ls, q1, q2, q3, q4.mono (fun _ _ q => q) (by decide) (by decide)⟩
      · obtain ⟨τ3, a, ls, q1, q2, q3, q4⟩ := m_127 (d := d + 17) (r := r) 1 τ2 A2.1.2.2.1 (A2.1.Z X0) (by decide) (by rw [show (2 : Nat) ^ 1 = 2 from rfl]; omega)
        exact ⟨τ3, a, ls, q1, q2, q3, q4.mono (fun _ _ q => q) (by decide) (by decide)⟩
      · obtain ⟨τ3, a, ls, q1, q2, q3, q4⟩ := m_127 (d := d + 16) (r := r) 2 τ2 A2.1.2.2.1 (A2.1.Z X0) (by decide) (by rw [show (2 : Nat) ^ 2 = 4 from rfl]; omega)
        exact ⟨τ3, a, ls, q1, q2, q3, q4.mono (fun _ _ q => q) (by decide) (by decide)⟩
    obtain ⟨τ3, a, ls, g3, V3, ⟨Z3, ch3⟩, F3⟩ := hN
    have A3 : pR7 b r σ0 t0 s (c + 7) (x + 28) τ3 l R D .null := A2.law X0 F3 (fun _ q => q) ch3
    have nx3 := F3.2.2.1
    have ha := V3.1
    -- it goes into the strip
    have B4 := (A3.pu X0).cvr (cv' := .ref a) (n := ls.length) (g := yg ls)
    have A4 := A3.up X0 B4
    have V4 := pV_no (pF_co B4.2.2.2 (A3.1.Z X0)) _ _ _ V3
    obtain ⟨E, hE⟩ : ∃ E, E = D.scv ls.length (yg ls) := ⟨_, rfl⟩
    rw [← hE] at A4
    obtain ⟨τ4, e4⟩ : ∃ τ4, τ4 = xwr τ3 s (.inr (12, [.ref R.lr, .int D.un, .int D.lv, .int D.sh, .int D.ac, .ref R.fr, .ref a, .int 0, .int 0])) := ⟨_, rfl⟩
    rw [← e4] at A4 V4
    have x4 : τ4.2.1.1 = τ3.2.1.1 := by rw [e4]; rfl
    -- the text
    have w25 : ywl 25 = 6 := by decide
    have w18 : ywl 18 = 2 := by decide
    obtain ⟨τ5, k5, A5, F5⟩ := A4.semi (d := d) X0 C (i := 25) (by decide) (by rw [w25]; omega)
    have nx5 := F5.2.2.1
    have V5 := pV_no (fun b' e h hc => pF_keep (A4.1.Z X0) F5 h (A4.1.co X0 b' e h hc)) _ _ _ V4
    obtain ⟨w, Nt⟩ := pNt_of _ _ _ V5 0
    have hT : ∃ τ6 sr vs, Ra (d + 19) 128 [.ref a, .int (yI 0)] τ5 (.inl (some (.ref sr))) τ6 ∧ (pTy τ6 sr vs w ∧ ((pF pno 140 14000 τ5 τ6 ∧ pZ τ6) ∧ (τ5.2.1.1 ≤ sr ∧ τ5.2.1.1 ≤ vs))) := by
      rcases (by omega : k = 0 ∨ (k = 1 ∨ k = 2)) with rfl | rfl | rfl
      · obtain ⟨τ6, sr, vs, q1, q2, ⟨q3, q4⟩, q5⟩ := m_128 (d := d + 13) 1 a 0 w ls τ5 Nt (A5.1.Z X0) (by decide) (by decide) (by show τ5.2.1.1 + 20 + 20 < 900000; omega)
        exact ⟨τ6, sr, vs, q1, q2, ⟨q3.mono (fun _ _ q => q) (by decide) (by decide), q4⟩, q5⟩
      · obtain ⟨τ6, sr, vs, q1, q2, ⟨q3, q4⟩, q5⟩ := m_128 (d := d + 12) 2 a 0 w ls τ5 Nt (A5.1.Z X0) (by decide) (by decide) (by show τ5.2.1.1 + 60 + 20 < 900000; omega)
        exact ⟨τ6, sr, vs, q1, q2, ⟨q3.mono (fun _ _ q => q) (by decide) (by decide), q4⟩, q5⟩
      · obtain ⟨τ6, sr, vs, q1, q2, ⟨q3, q4⟩, q5⟩ := m_128 (d := d + 11) 3 a 0 w ls τ5 Nt (A5.1.Z X0) (by decide) (by decide) (by show τ5.2.1.1 + 140 + 20 < 900000; omega)
        exact ⟨τ6, sr, vs, q1, q2, ⟨q3.mono (fun _ _ q => q) (by decide) (by decide), q4⟩, q5⟩
    obtain ⟨τ6, sr, vs, g6, T6, ⟨F6, Z6⟩, h6s, h6v⟩ := hT
    have A6 : pR7 b r σ0 t0 s (c + 7 + 0 + 140) (x + 28 + 0 + 14000) τ6 (l ++ ptw 25) R E (.ref a) := A5.law X0 F6 (fun _ q => q.elim) (pch_keep A5.1.2.2.1 (A5.1.Z X0) F6 id)
    have V6 := pV_no (fun b' e h _ => pF_keep (A5.1.Z X0) F6 h id) _ _ _ V5
    have hnx5 := A5.nx X0
    have T6' : pTx b r τ6 sr w := by
      obtain ⟨f, tl, h1, h2, h3⟩ := T6
      refine ⟨vs, f, tl, h1, h2, ?_⟩
      rcases h3 with ⟨⟨h3, -⟩, h4⟩ | ⟨h3, h4⟩
      · exact Or.inl ⟨by omega, h4⟩
      · exact Or.inr ⟨⟨h3, pXp_hi X0 (by omega)⟩, h4, pXp_hi X0 (by omega)⟩
    have hw := pNt_len _ _ _ _ _ Nt
    have hp8 : 2 ^ (k + 1) ≤ 2 ^ 3 := Nat.pow_le_pow_right (by decide) (by omega)
    have hp8' : (2 : Nat) ^ 3 = 8 := rfl
    obtain ⟨τ7, k7, X7, F7⟩ := m_182 (d := d + 15) X0 C A6.1 (by simp only [List.length_append, ptw_len, w25]; omega) T6'
    have A7 := A6.wr X0 X7 F7
    have V7 := pV_no (fun b' e h hc => pF_keep (A6.1.Z X0) F7 h (A6.1.co X0 b' e h hc)) _ _ _ V6
    obtain ⟨τ8, k8, A8, F8⟩ := A7.semi (d := d) X0 C (i := 18) (by decide) (by rw [w18]; simp only [List.length_append, ptw_len, w25]; omega)
    have V8 := pV_no (fun b' e h hc => pF_keep (A7.1.Z X0) F8 h (A7.1.co X0 b' e h hc)) _ _ _ V7
    have P2 := pRd_st P (pSt_curve (U := (D, (fb, (lf, false)))) Nt (by omega) rfl)
    have hlen1 := pV_len _ _ _ V8
    refine ⟨τ8, l ++ ptw 25 ++ w ++ ptw 18, E, .ref a, true, fun Q => ?_, ?_, ⟨?_, ?_⟩, ?_, ?_, ?_⟩
    · obtain ⟨fn, on⟩ : ∃ fn, xRd τ5 a = some (.inr (10, fn)) := by
        obtain ⟨q1, kd', nm', u', v', q2, -⟩ := V5
        exact ⟨_, (yrd_lt q1).trans q2⟩
      have o3 := A3.2.1.1.2
      have o5 := A5.2.1.ob
      have k5' : Ra (d + 19) 182 [.ref 0, .ref b, .ref 1000125] τ4 (.inl none) τ5 := k5
      have g6' : Ra (d + 19) 128 [.ref a, .int 0] τ5 (.inl (some (.ref sr))) τ6 := g6
      have k7' : Ra (d + 19) 182 [.ref 0, .ref b, .ref sr] τ6 (.inl none) τ7 := k7
      have k8' : Ra (d + 19) 182 [.ref 0, .ref b, .ref 1000118] τ7 (.inl none) τ8 := k8
      simp only [s_207_348, s_207_349, s_207_350, s_207_351, s_207_352, s_207_353, s_207_354, s_207_355, s_207_356, s_207_357, s_207_358, or1, or2, g1' _, g2' _, g3 _, z, o3, hs, ha, ne_eq, not_true_eq_false, if_false, hgf_s, hsel_0, hsel_1, hsel_2, hsel_3, hsel_4, hsel_5, hsel_6, hsel_7, hsel_8, hset_0, hset_1, hset_2, hset_3, hset_4, hset_5, hset_6, hset_7, hset_8, hpf_s, hcl_s, hai_s, hpi_0, hpi_1, hln_0, hln_1, List.length_cons, List.length_nil, xwr_1, xwr_2, xnew_1, xnew_n, xnew_s, xnew_z, Nat.reduceLT, ite_true, and_self, hp_8_0, hp_8_1, hn_8_1, hp_8_2, hn_8_2, hp_9_0, hp_9_1, hp_9_2, hp_9_3, hp_9_4, hp_9_5, hn_9_5, hp_9_6, hn_9_6, hp_9_7, hn_9_7, hp_10_0, hp_10_1, hp_10_2, hn_10_2, hp_10_3, hn_10_3, hp_11_0, hp_12_0, hn_12_0, hp_12_1, hp_12_2, hp_12_3, hp_12_4, hp_12_5, hn_12_5, hp_12_6, hn_12_6, hp_12_7, hp_12_8, hp_13_0, hn_13_0, hp_13_1, hp_13_2, hp_13_3, hp_14_0, hn_14_0, hp_14_1, hp_14_2, hp_14_3, xdef_8, xdef_9, xdef_10, xdef_11, xdef_12, xdef_13, xdef_14, Gk_v, Gk_n, xcat_nil, xcat_i, xcat_r, xcat_l, xcat_d, Nat.zero_le, Nat.reduceAdd, Nat.reduceLeDiff, true_and, and_true, ykl_i, ykl_r, ykl_n, ykl_l]
      rw [← e4]
      simp only [s_207_359, s_207_360, s_207_361, s_207_362, s_207_363, s_207_364, s_207_365, s_207_366, s_207_367, s_207_368, s_207_369, s_207_370, s_207_371, s_207_372, s_207_373, o5, on, k5' _, g6' _, k7' _, k8' _, hgf_s, hsel_0, hsel_1, hsel_2, hsel_3, hsel_4, hsel_5, hsel_6, hsel_7, hsel_8, hset_0, hset_1, hset_2, hset_3, hset_4, hset_5, hset_6, hset_7, hset_8, hpf_s, hcl_s, hai_s, hpi_0, hpi_1, hln_0, hln_1, List.length_cons, List.length_nil, xwr_1, xwr_2, xnew_1, xnew_n, xnew_s, xnew_z, Nat.reduceLT, ite_true, and_self, hp_8_0, hp_8_1, hn_8_1, hp_8_2, hn_8_2, hp_9_0, hp_9_1, hp_9_2, hp_9_3, hp_9_4, hp_9_5, hn_9_5, hp_9_6, hn_9_6, hp_9_7, hn_9_7, hp_10_0, hp_10_1, hp_10_2, hn_10_2, hp_10_3, hn_10_3, hp_11_0, hp_12_0, hn_12_0, hp_12_1, hp_12_2, hp_12_3, hp_12_4, hp_12_5, hn_12_5, hp_12_6, hn_12_6, hp_12_7, hp_12_8, hp_13_0, hn_13_0, hp_13_1, hp_13_2, hp_13_3, hp_14_0, hn_14_0, hp_14_1, hp_14_2, hp_14_3, xdef_8, xdef_9, xdef_10, xdef_11, xdef_12, xdef_13, xdef_14, Gk_v, Gk_n, xcat_nil, xcat_i, xcat_r, xcat_l, xcat_d, Nat.zero_le, Nat.reduceAdd, Nat.reduceLeDiff, true_and, and_true, ykl_i, ykl_r, ykl_n, ykl_l]
    · obtain ⟨⟨q1, q2, q3, q4, q5⟩, q6⟩ := A8
      exact ⟨⟨q1, q2, q3, q4.mono (fun _ _ q => q) (by omega) (by omega), q5⟩, q6⟩
    · rw [hE, List.append_assoc, List.append_assoc]
      rw [List.append_assoc] at P2
      exact P2
    · simp only [List.length_append, ptw_len, w25, w18]
      omega
    · refine Or.inr ⟨by rw [hE]; exact hlen1, a, ls, rfl, pV_le _ _ _ _ (by omega) V8, by rw [hE]; rfl, fun j c hj => ?_⟩
      rw [hE]
      show yg ls j = c
      unfold yg
      rw [List.getD_eq_getElem?_getD, hj]
      rfl
    · rw [hE]; exact hDn
    · rw [hE]; rfl
  · have z : ¬ yI v1 = 0 := fun e => hv0 ((yI_inj (m := 0) (by omega) (by decide)).mp e)
    refine ⟨τ1, l, D, .null, false, fun Q => ?_, ?_, ⟨P, by omega⟩, Or.inl ⟨hcn, rfl⟩, hDn, rfl⟩
    · simp only [s_207_348, s_207_349, s_207_350, s_207_351, or1, g1' _, z, ne_eq, not_false_eq_true, if_true, hcl_s, true_and, Gk_v, Gk_n, xcat_nil, xcat_i, xcat_r, xcat_l, xcat_d, Nat.zero_le, Nat.reduceAdd, Nat.reduceLeDiff, true_and, and_true, ykl_i, ykl_r, ykl_n, ykl_l]
    · obtain ⟨⟨q1, q2, q3, q4, q5⟩, q6⟩ := A1
      exact ⟨⟨q1, q2, q3, q4.mono (fun _ _ q => q) (by omega) (by omega), q5⟩, q6⟩
end

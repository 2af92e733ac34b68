/-! ===== strips by chance: fills ===== -/
def pv5 (a b c e f : Nat) : Nat → Nat := fun j => if j = 0 then a else if j = 1 then b else if j = 2 then c else if j = 3 then e else f
section
variable {d : Nat} {D : yD} {b r s c x : Nat} {σ σ0 τ : xS} {t0 : yT} {l w : List Nat} {R : pR} {cv : Value} {dn en : Int32} {lo hi c' s' p : Nat}
variable {D0 : yD} {k0 : Nat} {E0 : Nat → yD} {s0 s1 : Option yD} {n0 : Nat} {B0 : Nat → Nat} {eo en' : Int32}
theorem pch_ch (h : pch σ r) (Z : pZ σ) : ∃ v τ, v < 256 ∧ (Ra (d + 1) 206 [.ref r] σ (.inl (some (.int (yI v)))) τ ∧ (((pZ τ ∧ pch τ r) ∧ pF (fun a => a = r) 0 0 σ τ) ∧ ((∀ a, a ≠ r → τ.1 a = σ.1 a) ∧ τ.2 = σ.2))) := by
  obtain ⟨v, x, hv, g⟩ := m_206 (d := d) h
  obtain ⟨hr, x0, h0⟩ := h
  exact ⟨v, _, hv, g, ⟨⟨pZ_wr Z h0, pch_at hr⟩, pF_wr (pZ_lt Z h0) rfl⟩, fun a ha => by rw [xwr_1, if_neg ha], rfl⟩
theorem pR7.ch (X0 : pX0 b r σ0 t0) (A : pR7 b r σ0 t0 s c x σ l R D cv) : ∃ v τ, v < 256 ∧ (Ra (d + 1) 206 [.ref r] σ (.inl (some (.int (yI v)))) τ ∧ ((pR7 b r σ0 t0 s c x τ l R D cv ∧ τ.2 = σ.2) ∧ ∀ a, a ≠ r → τ.1 a = σ.1 a)) := by
  obtain ⟨v, τ, hv, g, ⟨⟨Z, p⟩, F⟩, q, e⟩ := pch_ch (d := d) A.1.2.2.1 (A.1.Z X0)
  exact ⟨v, τ, hv, g, ⟨A.law X0 F (fun _ h => h) p, e⟩, q⟩
/-- a row of the law's own, behind the strip -/
theorem pR7.row (X0 : pX0 b r σ0 t0) (A : pR7 b r σ0 t0 s c x σ l R D cv) {a h' : Nat} {e e' : xE} (J : pJ σ0.2.1.1 h' s R D) (ha : h' ≤ a) (ha0 : σ0.2.1.1 ≤ a) (hx : pnx R D.n a) (h : σ.1 a = some e) : pR7 b r σ0 t0 s c x (xwr σ a e') l R D cv := by
  have Z := A.1.Z X0
  have hlo := X0.lo
  have hal := pZ_lt Z h
  have F : pF (fun z => z = a) 0 0 σ (xwr σ a e') := pF_wr hal rfl
  refine ⟨A.1.law X0 F (fun z q => Or.inl (by have q' : z = a := q; omega)) (pch_keep A.1.2.2.1 Z F (by omega)), A.2.1.wr J (fun q => by have := q.2; omega) hx, A.2.2.hi ?_⟩
  exact Nat.le_refl _
theorem l_207g (X0 : pX0 b r σ0 t0) (C : yCI t0 D0 k0 E0 s0 s1 n0 B0 eo en') {N fb : Nat} (hN : 1 ≤ N ∧ N ≤ 9) {l5 : Option Value} {y6 : Int32} (hr : σ0.2.1.1 + 200 < 900000) : ∀ m (σ : xS) (l : List Nat) (R : pR) (D : yD) (c x : Nat) (l8 l9 l10 : Option Value), m ≤ 4 → c + 2 * m ≤ 110 → l.length + 40 * m ≤ 310 → yDok D → D.n = N → pR7 b r σ0 t0 s c x σ l R D cv → pRd l (D, (fb, (false, false))) → ∃ τ l' R' D' m8 m9 m10, (∀ Q, G (d + 20) 207 246 [some (.ref 0), some (.ref b), some (.ref r), some (.ref s), some (.int (yI N)), l5, some (.int y6), some (.int (yI m)), l8, l9, l10] [] σ Q ↔ G (d + 20) 207 323 [some (.ref 0), some (.ref b), some (.ref r), some (.ref s), some (.int (yI N)), l5, some (.int y6), some (.int (yI 0)), m8, m9, m10] [] τ Q) ∧ (pR7 b r σ0 t0 s (c + 2 * m) (x + 8 * m) τ l' R' D' cv ∧ ((pRd l' (D', (fb, (false, false))) ∧ l'.length ≤ l.length + 40 * m) ∧ (yDok D' ∧ (D'.n = N ∧ (D'.cn = D.cn ∧ pfr D' 0 = pfr D 0))))) := by
  have hlo := X0.lo
  intro m
  induction m with
  | zero =>
    intro σ l R D c x l8 l9 l10 hm hc hl hD hDn A P
    have z : yI 0 ≤ 0 := by decide
    refine ⟨σ, l, R, D, l8, l9, l10, fun Q => ?_, A, ⟨P, Nat.le_refl _⟩, hD, hDn, rfl, rfl⟩
    rw [s_207_246]
    simp only [s_207_247, z, if_true]
  | succ m ih =>
    intro σ l R D c x l8 l9 l10 hm hc hl hD hDn A P
    have z : ¬ yI (m + 1) ≤ 0 := fun g => by
      have := (yI_le (m := 0) (by omega) (by decide)).mp g
      omega
    have zd : yI (m + 1) + (-1) = yI m := by rw [yI_dec (by omega)]; rfl
    -- from where to where
    obtain ⟨fm, τ1, hfm, g1, ⟨A1, e1⟩, -⟩ := A.go (d := d + 19) X0 (m := N) (by omega) (by omega)
    obtain ⟨dl, τ2, hdl, g2, ⟨A2, e2⟩, -⟩ := A1.go (d := d + 19) X0 (m := N - fm) (by omega) (by omega)
    have g2' : Ra (d + 19) 131 [.ref r, .int (yI (N - fm))] τ1 (.inl (some (.int (yI dl)))) τ2 := g2
    obtain ⟨f1, or1⟩ := A.or
    obtain ⟨f2, or2⟩ := A1.or
    obtain ⟨to, hto⟩ : ∃ to, to = fm + dl := ⟨_, rfl⟩
    have asub : yI N - yI fm = yI (N - fm) := yI_sub (by omega)
    have aadd : yI fm + yI dl = yI to := by rw [hto]; exact yI_add
    have hnx2 := A2.nx X0
    -- the color
    have J2 := A2.2.2
    have hpx := pnx_of A2.2.1 (A2.1.Z X0) (Nat.le_refl _)
    have A3 : pR7 b r σ0 t0 s (c + 1) (x + 3) (xnew τ2 (.inl (0, (3, .inl (fun _ => 0)))) 3) l R D cv := A2.new X0
    have q3 : (xnew τ2 (.inl (0, (3, .inl (fun _ => 0)))) 3).1 τ2.2.1.1 = some (.inl (0, (3, .inl (fun _ => 0)))) := pnew_at
    obtain ⟨τ3, e3⟩ : ∃ τ3, τ3 = xnew τ2 (.inl (0, (3, .inl (fun _ => 0)))) 3 := ⟨_, rfl⟩
    rw [← e3] at A3 q3
    obtain ⟨v0, τ4, hv0, g4, ⟨A4, x4⟩, kp4⟩ := A3.ch (d := d + 18) X0
    have q4 : τ4.1 τ2.2.1.1 = some (.inl (0, (3, .inl (fun _ => 0)))) := by rw [kp4 _ (by omega), q3]
    have A5 := A4.row X0 J2 (Nat.le_refl _) (by omega) hpx q4 (e' := .inl (0, (3, .inl (upd (fun _ => 0) 0 (yI v0)))))
    have q5 : (xwr τ4 τ2.2.1.1 (.inl (0, (3, .inl (upd (fun _ => 0) 0 (yI v0)))))).1 τ2.2.1.1 = some (.inl (0, (3, .inl (upd (fun _ => 0) 0 (yI v0))))) := pwr_at
    obtain ⟨τ5, e5⟩ : ∃ τ5, τ5 = xwr τ4 τ2.2.1.1 (.inl (0, (3, .inl (upd (fun _ => 0) 0 (yI v0))))) := ⟨_, rfl⟩
    rw [← e5] at A5 q5
    obtain ⟨v1, τ6, hv1, g6, ⟨A6, x6⟩, kp6⟩ := A5.ch (d := d + 18) X0
    have q6 : τ6.1 τ2.2.1.1 = some (.inl (0, (3, .inl (upd (fun _ => 0) 0 (yI v0))))) := by rw [kp6 _ (by omega), q5]
    have A7 := A6.row X0 J2 (Nat.le_refl _) (by omega) hpx q6 (e' := .inl (0, (3, .inl (upd (upd (fun _ => 0) 0 (yI v0)) 1 (yI v1)))))
    have q7 : (xwr τ6 τ2.2.1.1 (.inl (0, (3, .inl (upd (upd (fun _ => 0) 0 (yI v0)) 1 (yI v1)))))).1 τ2.2.1.1 = some (.inl (0, (3, .inl (upd (upd (fun _ => 0) 0 (yI v0)) 1 (yI v1))))) := pwr_at
    obtain ⟨τ7, e7⟩ : ∃ τ7, τ7 = xwr τ6 τ2.2.1.1 (.inl (0, (3, .inl (upd (upd (fun _ => 0) 0 (yI v0)) 1 (yI v1))))) := ⟨_, rfl⟩
    rw [← e7] at A7 q7
    obtain ⟨v2, τ8, hv2, g8, ⟨A8, x8⟩, kp8⟩ := A7.ch (d := d + 18) X0
    have q8 : τ8.1 τ2.2.1.1 = some (.inl (0, (3, .inl (upd (upd (fun _ => 0) 0 (yI v0)) 1 (yI v1))))) := by rw [kp8 _ (by omega), q7]
    have A9 := A8.row X0 J2 (Nat.le_refl _) (by omega) hpx q8 (e' := .inl (0, (3, .inl (upd (upd (upd (fun _ => 0) 0 (yI v0)) 1 (yI v1)) 2 (yI v2)))))
    have q9 : (xwr τ8 τ2.2.1.1 (.inl (0, (3, .inl (upd (upd (upd (fun _ => 0) 0 (yI v0)) 1 (yI v1)) 2 (yI v2)))))).1 τ2.2.1.1 = some (.inl (0, (3, .inl (upd (upd (upd (fun _ => 0) 0 (yI v0)) 1 (yI v1)) 2 (yI v2))))) := pwr_at
    obtain ⟨τ9, e9⟩ : ∃ τ9, τ9 = xwr τ8 τ2.2.1.1 (.inl (0, (3, .inl (upd (upd (upd (fun _ => 0) 0 (yI v0)) 1 (yI v1)) 2 (yI v2))))) := ⟨_, rfl⟩
    rw [← e9] at A9 q9
    have r2' : τ2.2.1.1 < 1000000 := by omega
    obtain ⟨w1, w2, w3, w4⟩ := pcol_of (r := v0) (g := v1) (b := v2) hv0 hv1 hv2
    have hC : pC τ9 τ2.2.1.1 (yI (65536 * v0 + 256 * v1 + v2)) := ⟨r2', _, q9, by rw [w2]; rfl, by rw [w3]; rfl, by rw [w4]; rfl⟩
    -- filling
    obtain ⟨τ10, R', g10, B10⟩ := m_145 (d := d + 18) (A9.pu X0) hD w1 hC (fm := fm) (to := to) (by omega) (by omega)
    have A10 := A9.up X0 B10
    have hnx10 := A10.nx X0
    obtain ⟨E, hE⟩ : ∃ E, E = (ypt (yI (65536 * v0 + 256 * v1 + v2)) (to + 1 - fm) fm 0 D).2 := ⟨_, rfl⟩
    rw [← hE] at A10
    obtain ⟨FF, hF⟩ := ypt_D (c := yI (65536 * v0 + 256 * v1 + v2)) (to + 1 - fm) fm 0 D
    rw [← hE] at hF
    have hEn : E.n = D.n := by rw [hF]; rfl
    have hEd : yDok E := by rw [hF]; exact yDok_sfm hD
    have F910 : pF (pP σ0.2.1.1 τ9.2.1.1 τ9) 0 0 τ9 τ10 := B10.2.2.2
    have q10 : τ10.1 τ2.2.1.1 = some (.inl (0, (3, .inl (upd (upd (upd (fun _ => 0) 0 (yI v0)) 1 (yI v1)) 2 (yI v2))))) := pF_keep (A9.1.Z X0) F910 q9 (fun q => q.2 _ q9 (Or.inl ⟨3, _, Or.inr rfl, rfl⟩))
    -- the text
    have w6 : ywl 6 = 4 := by decide
    have w24 : ywl 24 = 1 := by decide
    obtain ⟨f5, hf5⟩ : ∃ f5, f5 = upd (upd (upd (upd (upd (fun _ => (0 : Int32)) 0 (yI fm)) 1 (yI to)) 2 (yI v0)) 3 (yI v1)) 4 (yI v2) := ⟨_, rfl⟩
    have A11 : pR7 b r σ0 t0 s (c + 1 + 0 + 1) (x + 3 + 0 + 5) (xnew τ10 (.inl (0, (5, .inl f5))) 5) l R' E cv := A10.new X0
    have q11 : (xnew τ10 (.inl (0, (5, .inl f5))) 5).1 τ10.2.1.1 = some (pints 5 f5) := pnew_at
    obtain ⟨τ11, k11, A12, F12⟩ := A11.all (d := d) X0 C (i := 6) (by decide) (M := 5) (N := 5) (v := pv5 fm to v0 v1 v2) (Nat.le_refl _) (by decide) (fun j hj => by
      rw [hf5]
      rcases (by omega : j = 0 ∨ (j = 1 ∨ (j = 2 ∨ (j = 3 ∨ j = 4)))) with rfl | rfl | rfl | rfl | rfl
      · exact ⟨rfl, by show fm < 10000; omega⟩
      · exact ⟨rfl, by show to < 10000; omega⟩
      · exact ⟨rfl, by show v0 < 10000; omega⟩
      · exact ⟨rfl, by show v1 < 10000; omega⟩
      · exact ⟨rfl, by show v2 < 10000; omega⟩) (nr := τ10.2.1.1) ⟨hnx10.1, by omega⟩ q11 (by rw [w6]; omega)
    have hl5 := pnm_len (v := pv5 fm to v0 v1 v2) 5 0
    obtain ⟨τ12, k12, A13, F13⟩ := A12.semi (d := d) X0 C (i := 24) (by decide) (by rw [w24]; simp only [List.length_append, ptw_len, w6]; omega)
    have e24 : ptw 24 = [59] := by decide
    rw [e24] at A13
    have P2 := pRd_st P (pSt_fill (v := pv5 fm to v0 v1 v2) (U := (D, (fb, (false, false)))) ⟨by show fm ≤ to; omega, by show to < D.n; omega, by show D.n ≤ 40; omega⟩ hv0 hv1 hv2)
    have P3 : pRd (l ++ (ptw 6 ++ pnm (pv5 fm to v0 v1 v2) 0 5) ++ [59]) (E, (fb, (false, false))) := by
      rw [hE, List.append_assoc]
      exact P2
    obtain ⟨τ, l', R2, D', m8, m9, m10, i1, i2, ⟨i3, i3'⟩, i4, i5, i6, i7⟩ := ih τ12 _ R' E (c + 2) (x + 8) (some (.int (yI fm))) (some (.int (yI to))) (some (.ref τ2.2.1.1)) (by omega) (by omega) (by simp only [List.length_append, List.length_cons, List.length_nil, ptw_len, w6]; omega) hEd (by omega) A13 P3
    refine ⟨τ, l', R2, D', m8, m9, m10, fun Q => ?_, ?_, ⟨i3, by simp only [List.length_append, List.length_cons, List.length_nil, ptw_len, w6] at i3'; omega⟩, i4, i5, by rw [i6, hF]; rfl, by rw [i7, hF]; rfl⟩
    · have n3 : ¬ (3 : Int32) < 0 := by decide
      have n4 : (3 : Nat) ≤ 100000 := by decide
      have n5 : ¬ (5 : Int32) < 0 := by decide
      have n6 : (5 : Nat) ≤ 100000 := by decide
      have c3 : (3 : Int32).toNatClampNeg = 3 := rfl
      have c5 : (5 : Int32).toNatClampNeg = 5 := rfl
      have r2 : τ2.2.1.1 < 900000 := by omega
      have r10 : τ10.2.1.1 < 900000 := by omega
      have r10' : τ10.2.1.1 < 1000000 := by omega
      have o9 := A9.2.1.ob
      have rd : ∀ e m, xRd (xnew τ10 e m) τ2.2.1.1 = some (.inl (0, (3, .inl (upd (upd (upd (fun _ => 0) 0 (yI v0)) 1 (yI v1)) 2 (yI v2))))) := fun e m => prd_new (A10.1.Z X0) r2' ((yrd_lt r2').trans q10)
      have g4' : Ra (d + 19) 206 [.ref r] τ3 (.inl (some (.int (yI v0)))) τ4 := g4
      have g6' : Ra (d + 19) 206 [.ref r] τ5 (.inl (some (.int (yI v1)))) τ6 := g6
      have g8' : Ra (d + 19) 206 [.ref r] τ7 (.inl (some (.int (yI v2)))) τ8 := g8
      have g10' : Ra (d + 19) 145 [.ref s, .int (yI fm), .int (yI to), .ref τ2.2.1.1] τ9 (.inl (some (.int (ypt (yI (65536 * v0 + 256 * v1 + v2)) (to + 1 - fm) fm 0 D).1))) τ10 := g10
      have k11' : Ra (d + 19) 205 [.ref 0, .ref b, .ref 1000106, .int 5, .ref τ10.2.1.1] (xnew τ10 (.inl (0, (5, .inl f5))) 5) (.inl none) τ11 := k11
      have k12' : Ra (d + 19) 182 [.ref 0, .ref b, .ref 1000124] τ11 (.inl none) τ12 := k12
      rw [s_207_246]
      simp only [s_207_247, s_207_248, s_207_249, s_207_250, s_207_251, s_207_252, s_207_253, s_207_254, s_207_255, s_207_256, s_207_257, s_207_258, s_207_259, s_207_260, s_207_261, z, or1, or2, g1 _, g2' _, asub, aadd, n3, n4, c3, r2, not_false_eq_true, if_false, hgf_s, hsel_0, hsel_1, hsel_2, hsel_3, hsel_4, hsel_5, hsel_6, hsel_7, hsel_8, hset_0, hset_1, hset_2, hset_3, hset_4, hset_5, hset_6, hset_7, hset_8, hpf_s, hcl_s, hai_s, hpi_0, hpi_1, hln_0, hln_1, List.length_cons, List.length_nil, xwr_1, xwr_2, xnew_1, xnew_n, xnew_s, xnew_z, Nat.reduceLT, ite_true, and_self, hp_8_0, hp_8_1, hn_8_1, hp_8_2, hn_8_2, hp_9_0, hp_9_1, hp_9_2, hp_9_3, hp_9_4, hp_9_5, hn_9_5, hp_9_6, hn_9_6, hp_9_7, hn_9_7, hp_10_0, hp_10_1, hp_10_2, hn_10_2, hp_10_3, hn_10_3, hp_11_0, hp_12_0, hn_12_0, hp_12_1, hp_12_2, hp_12_3, hp_12_4, hp_12_5, hn_12_5, hp_12_6, hn_12_6, hp_12_7, hp_12_8, hp_13_0, hn_13_0, hp_13_1, hp_13_2, hp_13_3, hp_14_0, hn_14_0, hp_14_1, hp_14_2, hp_14_3, xdef_8, xdef_9, xdef_10, xdef_11, xdef_12, xdef_13, xdef_14, Gk_v, Gk_n, xcat_nil, xcat_i, xcat_r, xcat_l, xcat_d, Nat.zero_le, Nat.reduceAdd, Nat.reduceLeDiff, true_and, and_true, ykl_i, ykl_r, ykl_n, ykl_l]
      rw [← e3]
      simp only [s_207_262, s_207_262i, s_207_263, s_207_264, s_207_265, s_207_266, g4' _, q4, r2', yix3_0, ycl_0, hgf_s, hsel_0, hsel_1, hsel_2, hsel_3, hsel_4, hsel_5, hsel_6, hsel_7, hsel_8, hset_0, hset_1, hset_2, hset_3, hset_4, hset_5, hset_6, hset_7, hset_8, hpf_s, hcl_s, hai_s, hpi_0, hpi_1, hln_0, hln_1, List.length_cons, List.length_nil, xwr_1, xwr_2, xnew_1, xnew_n, xnew_s, xnew_z, Nat.reduceLT, ite_true, and_self, hp_8_0, hp_8_1, hn_8_1, hp_8_2, hn_8_2, hp_9_0, hp_9_1, hp_9_2, hp_9_3, hp_9_4, hp_9_5, hn_9_5, hp_9_6, hn_9_6, hp_9_7, hn_9_7, hp_10_0, hp_10_1, hp_10_2, hn_10_2, hp_10_3, hn_10_3, hp_11_0, hp_12_0, hn_12_0, hp_12_1, hp_12_2, hp_12_3, hp_12_4, hp_12_5, hn_12_5, hp_12_6, hn_12_6, hp_12_7, hp_12_8, hp_13_0, hn_13_0, hp_13_1, hp_13_2, hp_13_3, hp_14_0, hn_14_0, hp_14_1, hp_14_2, hp_14_3, xdef_8, xdef_9, xdef_10, xdef_11, xdef_12, xdef_13, xdef_14, Gk_v, Gk_n, xcat_nil, xcat_i, xcat_r, xcat_l, xcat_d, Nat.zero_le, Nat.reduceAdd, Nat.reduceLeDiff, true_and, and_true, ykl_i, ykl_r, ykl_n, ykl_l]
      rw [← e5]
      simp only [s_207_267, s_207_267i, s_207_268, s_207_269, s_207_270, s_207_271, g6' _, q6, r2', yix3_1, ycl_1, hgf_s, hsel_0, hsel_1, hsel_2, hsel_3, hsel_4, hsel_5, hsel_6, hsel_7, hsel_8, hset_0, hset_1, hset_2, hset_3, hset_4, hset_5, hset_6, hset_7, hset_8, hpf_s, hcl_s, hai_s, hpi_0, hpi_1, hln_0, hln_1, List.length_cons, List.length_nil, xwr_1, xwr_2, xnew_1, xnew_n, xnew_s, xnew_z, Nat.reduceLT, ite_true, and_self, hp_8_0, hp_8_1, hn_8_1, hp_8_2, hn_8_2, hp_9_0, hp_9_1, hp_9_2, hp_9_3, hp_9_4, hp_9_5, hn_9_5, hp_9_6, hn_9_6, hp_9_7, hn_9_7, hp_10_0, hp_10_1, hp_10_2, hn_10_2, hp_10_3, hn_10_3, hp_11_0, hp_12_0, hn_12_0, hp_12_1, hp_12_2, hp_12_3, hp_12_4, hp_12_5, hn_12_5, hp_12_6, hn_12_6, hp_12_7, hp_12_8, hp_13_0, hn_13_0, hp_13_1, hp_13_2, hp_13_3, hp_14_0, hn_14_0, hp_14_1, hp_14_2, hp_14_3, xdef_8, xdef_9, xdef_10, xdef_11, xdef_12, xdef_13, xdef_14, Gk_v, Gk_n, xcat_nil, xcat_i, xcat_r, xcat_l, xcat_d, Nat.zero_le, Nat.reduceAdd, Nat.reduceLeDiff, true_and, and_true, ykl_i, ykl_r, ykl_n, ykl_l]
      rw [← e7]
      simp only [s_207_272, s_207_272i, s_207_273, s_207_274, s_207_275, s_207_276, g8' _, q8, r2', yix3_2, ycl_2, hgf_s, hsel_0, hsel_1, hsel_2, hsel_3, hsel_4, hsel_5, hsel_6, hsel_7, hsel_8, hset_0, hset_1, hset_2, hset_3, hset_4, hset_5, hset_6, hset_7, hset_8, hpf_s, hcl_s, hai_s, hpi_0, hpi_1, hln_0, hln_1, List.length_cons, List.length_nil, xwr_1, xwr_2, xnew_1, xnew_n, xnew_s, xnew_z, Nat.reduceLT, ite_true, and_self, hp_8_0, hp_8_1, hn_8_1, hp_8_2, hn_8_2, hp_9_0, hp_9_1, hp_9_2, hp_9_3, hp_9_4, hp_9_5, hn_9_5, hp_9_6, hn_9_6, hp_9_7, hn_9_7, hp_10_0, hp_10_1, hp_10_2, hn_10_2, hp_10_3, hn_10_3, hp_11_0, hp_12_0, hn_12_0, hp_12_1, hp_12_2, hp_12_3, hp_12_4, hp_12_5, hn_12_5, hp_12_6, hn_12_6, hp_12_7, hp_12_8, hp_13_0, hn_13_0, hp_13_1, hp_13_2, hp_13_3, hp_14_0, hn_14_0, hp_14_1, hp_14_2, hp_14_3, xdef_8, xdef_9, xdef_10, xdef_11, xdef_12, xdef_13, xdef_14, Gk_v, Gk_n, xcat_nil, xcat_i, xcat_r, xcat_l, xcat_d, Nat.zero_le, Nat.reduceAdd, Nat.reduceLeDiff, true_and, and_true, ykl_i, ykl_r, ykl_n, ykl_l]
      rw [← e9]
      simp only [s_207_277 r2', s_207_278, s_207_279, s_207_280, s_207_281, s_207_282, s_207_283i, o9, g10' _, hgf_s, hsel_0, hsel_1, hsel_2, hsel_3, hsel_4, hsel_5, hsel_6, hsel_7, hsel_8, hset_0, hset_1, hset_2, hset_3, hset_4, hset_5, hset_6, hset_7, hset_8, hpf_s, hcl_s, hai_s, hpi_0, hpi_1, hln_0, hln_1, List.length_cons, List.length_nil, xwr_1, xwr_2, xnew_1, xnew_n, xnew_s, xnew_z, Nat.reduceLT, ite_true, and_self, hp_8_0, hp_8_1, hn_8_1, hp_8_2, hn_8_2, hp_9_0, hp_9_1, hp_9_2, hp_9_3, hp_9_4, hp_9_5, hn_9_5, hp_9_6, hn_9_6, hp_9_7, hn_9_7, hp_10_0, hp_10_1, hp_10_2, hn_10_2, hp_10_3, hn_10_3, hp_11_0, hp_12_0, hn_12_0, hp_12_1, hp_12_2, hp_12_3, hp_12_4, hp_12_5, hn_12_5, hp_12_6, hn_12_6, hp_12_7, hp_12_8, hp_13_0, hn_13_0, hp_13_1, hp_13_2, hp_13_3, hp_14_0, hn_14_0, hp_14_1, hp_14_2, hp_14_3, xdef_8, xdef_9, xdef_10, xdef_11, xdef_12, xdef_13, xdef_14, Gk_v, Gk_n, xcat_nil, xcat_i, xcat_r, xcat_l, xcat_d, Nat.zero_le, Nat.reduceAdd, Nat.reduceLeDiff, true_and, and_true, ykl_i, ykl_r, ykl_n, ykl_l]
      have u0 : upd (upd (upd (fun _ => (0 : Int32)) 0 (yI v0)) 1 (yI v1)) 2 (yI v2) 0 = yI v0 := rfl
      have u1 : upd (upd (upd (fun _ => (0 : Int32)) 0 (yI v0)) 1 (yI v1)) 2 (yI v2) 1 = yI v1 := rfl
      have u2 : upd (upd (upd (fun _ => (0 : Int32)) 0 (yI v0)) 1 (yI v1)) 2 (yI v2) 2 = yI v2 := rfl
      simp only [s_207_284, s_207_285, s_207_286, s_207_287, s_207_288, s_207_289, s_207_290, s_207_290i, s_207_291, s_207_292, s_207_293, s_207_294, s_207_294i, s_207_295, s_207_296, s_207_297, s_207_298, s_207_298i, s_207_299, s_207_300, s_207_301, s_207_302, n5, n6, c5, r10, r10', rd, u0, yix3_0, yix5_0, yix5_1, yix5_2, ycl_0, ycl_1, ycl_2, pnew_at, pwr_nw, not_false_eq_true, hgf_s, hsel_0, hsel_1, hsel_2, hsel_3, hsel_4, hsel_5, hsel_6, hsel_7, hsel_8, hset_0, hset_1, hset_2, hset_3, hset_4, hset_5, hset_6, hset_7, hset_8, hpf_s, hcl_s, hai_s, hpi_0, hpi_1, hln_0, hln_1, List.length_cons, List.length_nil, xwr_1, xwr_2, xnew_1, xnew_n, xnew_s, xnew_z, Nat.reduceLT, ite_true, and_self, hp_8_0, hp_8_1, hn_8_1, hp_8_2, hn_8_2, hp_9_0, hp_9_1, hp_9_2, hp_9_3, hp_9_4, hp_9_5, hn_9_5, hp_9_6, hn_9_6, hp_9_7, hn_9_7, hp_10_0, hp_10_1, hp_10_2, hn_10_2, hp_10_3, hn_10_3, hp_11_0, hp_12_0, hn_12_0, hp_12_1, hp_12_2, hp_12_3, hp_12_4, hp_12_5, hn_12_5, hp_12_6, hn_12_6, hp_12_7, hp_12_8, hp_13_0, hn_13_0, hp_13_1, hp_13_2, hp_13_3, hp_14_0, hn_14_0, hp_14_1, hp_14_2, hp_14_3, xdef_8, xdef_9, xdef_10, xdef_11, xdef_12, xdef_13, xdef_14, Gk_v, Gk_n, xcat_nil, xcat_i, xcat_r, xcat_l, xcat_d, Nat.zero_le, Nat.reduceAdd, Nat.reduceLeDiff, true_and, and_true, ykl_i, ykl_r, ykl_n, ykl_l]
      simp only [s_207_303, s_207_304, s_207_304i, s_207_305, s_207_306, s_207_307, s_207_308, s_207_309, s_207_310, s_207_310i, s_207_311, s_207_312, s_207_313, s_207_314, s_207_315, r10', rd, u1, u2, yix3_1, yix3_2, yix5_2, yix5_3, yix5_4, ycl_1, ycl_2, ycl_3, ycl_4, pnew_at, pwr_nw, hgf_s, hsel_0, hsel_1, hsel_2, hsel_3, hsel_4, hsel_5, hsel_6, hsel_7, hsel_8, hset_0, hset_1, hset_2, hset_3, hset_4, hset_5, hset_6, hset_7, hset_8, hpf_s, hcl_s, hai_s, hpi_0, hpi_1, hln_0, hln_1, List.length_cons, List.length_nil, xwr_1, xwr_2, xnew_1, xnew_n, xnew_s, xnew_z, Nat.reduceLT, ite_true, and_self, hp_8_0, hp_8_1, hn_8_1, hp_8_2, hn_8_2, hp_9_0, hp_9_1, hp_9_2, hp_9_3, hp_9_4, hp_9_5, hn_9_5, hp_9_6, hn_9_6, hp_9_7, hn_9_7, hp_10_0, hp_10_1, hp_10_2, hn_10_2, hp_10_3, hn_10_3, hp_11_0, hp_12_0, hn_12_0, hp_12_1, hp_12_2, hp_12_3, hp_12_4, hp_12_5, hn_12_5, hp_12_6, hn_12_6, hp_12_7, hp_12_8, hp_13_0, hn_13_0, hp_13_1, hp_13_2, hp_13_3, hp_14_0, hn_14_0, hp_14_1, hp_14_2, hp_14_3, xdef_8, xdef_9, xdef_10, xdef_11, xdef_12, xdef_13, xdef_14, Gk_v, Gk_n, xcat_nil, xcat_i, xcat_r, xcat_l, xcat_d, Nat.zero_le, Nat.reduceAdd, Nat.reduceLeDiff, true_and, and_true, ykl_i, ykl_r, ykl_n, ykl_l]
      rw [← hf5]
      simp only [s_207_316, s_207_317, s_207_318, s_207_319, s_207_320, s_207_321, s_207_322, k11' _, k12' _, zd, hgf_s, hsel_0, hsel_1, hsel_2, hsel_3, hsel_4, hsel_5, hsel_6, hsel_7, hsel_8, hset_0, hset_1, hset_2, hset_3, hset_4, hset_5, hset_6, hset_7, hset_8, hpf_s, hcl_s, hai_s, hpi_0, hpi_1, hln_0, hln_1, List.length_cons, List.length_nil, xwr_1, xwr_2, xnew_1, xnew_n, xnew_s, xnew_z, Nat.reduceLT, ite_true, and_self, hp_8_0, hp_8_1, hn_8_1, hp_8_2, hn_8_2, hp_9_0, hp_9_1, hp_9_2, hp_9_3, hp_9_4, hp_9_5, hn_9_5, hp_9_6, hn_9_6, hp_9_7, hn_9_7, hp_10_0, hp_10_1, hp_10_2, hn_10_2, hp_10_3, hn_10_3, hp_11_0, hp_12_0, hn_12_0, hp_12_1, hp_12_2, hp_12_3, hp_12_4, hp_12_5, hn_12_5, hp_12_6, hn_12_6, hp_12_7, hp_12_8, hp_13_0, hn_13_0, hp_13_1, hp_13_2, hp_13_3, hp_14_0, hn_14_0, hp_14_1, hp_14_2, hp_14_3, xdef_8, xdef_9, xdef_10, xdef_11, xdef_12, xdef_13, xdef_14, Gk_v, Gk_n, xcat_nil, xcat_i, xcat_r, xcat_l, xcat_d, Nat.zero_le, Nat.reduceAdd, Nat.reduceLeDiff, true_and, and_true, ykl_i, ykl_r, ykl_n, ykl_l]
      exact i1 Q
    · obtain ⟨⟨p1, p2, p3, p4, p5⟩, p6⟩ := i2
      exact ⟨⟨p1, p2, p3, p4.mono (fun _ _ q => q) (by omega) (by omega), p5⟩, p6⟩
end

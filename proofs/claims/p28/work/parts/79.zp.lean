/-! ===== strips by chance: bad pixels ===== -/
section
variable {d : Nat} {D : yD} {b r s c x : Nat} {σ σ0 τ : xS} {t0 : yT} {l w : List Nat} {R : pR} {cv : Value} {dn en : Int32} {lo hi c' s' p : Nat}
variable {D0 : yD} {k0 : Nat} {E0 : Nat → yD} {s0 s1 : Option yD} {n0 : Nat} {B0 : Nat → Nat} {eo en' : Int32}
theorem pU.skd (B : pU lo hi s cv dn en σ0 c' s' σ R D) (hp : p < D.n) {k : Int32} : pU lo hi s cv dn en σ0 c' s' (xwr σ (R.lm p) (plamp k (D.pd p) (yb (D.bp p)) (D.fr p) (D.og p) (R.tk p) (R.du p) (R.fm p))) R (D.skd (upd D.kd p k)) := by
  refine B.lamp hp ⟨rfl, rfl, rfl, rfl⟩ ⟨rfl, rfl, rfl, rfl, rfl, rfl, rfl, rfl⟩ (fun q hq => ⟨yupd_ne hq, rfl, rfl, rfl, rfl, rfl, rfl, rfl, rfl, rfl, rfl⟩) ⟨B.1.tk hp, B.1.du hp, B.1.fm hp⟩ ?_
  show _ = plamp (upd D.kd p k p) _ _ _ _ _ _ _
  rw [yupd_same]
  rfl
theorem pU.spd (B : pU lo hi s cv dn en σ0 c' s' σ R D) (hp : p < D.n) {k : Int32} : pU lo hi s cv dn en σ0 c' s' (xwr σ (R.lm p) (plamp (D.kd p) k (yb (D.bp p)) (D.fr p) (D.og p) (R.tk p) (R.du p) (R.fm p))) R (D.spd (upd D.pd p k)) := by
  refine B.lamp hp ⟨rfl, rfl, rfl, rfl⟩ ⟨rfl, rfl, rfl, rfl, rfl, rfl, rfl, rfl⟩ (fun q hq => ⟨rfl, yupd_ne hq, rfl, rfl, rfl, rfl, rfl, rfl, rfl, rfl, rfl⟩) ⟨B.1.tk hp, B.1.du hp, B.1.fm hp⟩ ?_
  show _ = plamp _ (upd D.pd p k p) _ _ _ _ _ _
  rw [yupd_same]
  rfl
theorem ybad_n {k : Nat → Int32} : ∀ n, ybad k n ≤ n := by
  intro n
  induction n with
  | zero => exact Nat.le_refl _
  | succ n ih =>
    show ybad k n + (if k n = 0 then 0 else 1) ≤ n + 1
    split <;> omega
/-- the bad pixels -/
theorem l_207f (X0 : pX0 b r σ0 t0) (C : yCI t0 D0 k0 E0 s0 s1 n0 B0 eo en') {N fb : Nat} (hN : 1 ≤ N ∧ N ≤ 9) {l5 : Option Value} {y6 : Int32} (hr : σ0.2.1.1 + 200 < 900000) : ∀ m (σ : xS) (l : List Nat) (D : yD) (c x : Nat) (l8 l9 : Option Value), m ≤ 2 → c + 2 * m ≤ 100 → l.length + 40 * m ≤ 140 → yDok D → D.n = N → pR7 b r σ0 t0 s c x σ l R D cv → pRd l (D, (fb, (false, false))) → ∃ τ l' D' m8 m9, (∀ Q, G (d + 20) 207 163 [some (.ref 0), some (.ref b), some (.ref r), some (.ref s), some (.int (yI N)), l5, some (.int y6), some (.int (yI m)), l8, l9, none] [] σ Q ↔ G (d + 20) 207 242 [some (.ref 0), some (.ref b), some (.ref r), some (.ref s), some (.int (yI N)), l5, some (.int y6), some (.int (yI 0)), m8, m9, none] [] τ Q) ∧ (pR7 b r σ0 t0 s (c + 2 * m) (x + 2 * m) τ l' R D' cv ∧ ((pRd l' (D', (fb, (false, false))) ∧ l'.length ≤ l.length + 40 * m) ∧ (yDok D' ∧ (D'.n = N ∧ (D'.cn = D.cn ∧ pfr D' 0 = pfr D 0))))) := by
  have hlo := X0.lo
  intro m
  induction m with
  | zero =>
    intro σ l D c x l8 l9 hm hc hl hD hDn A P
    have z : yI 0 ≤ 0 := by decide
    refine ⟨σ, l, D, l8, l9, fun Q => ?_, A, ⟨P, Nat.le_refl _⟩, hD, hDn, rfl, rfl⟩
    rw [s_207_163]
    simp only [s_207_164, z, if_true]
  | succ m ih =>
    intro σ l D c x l8 l9 hm hc hl hD hDn A P
    have z : ¬ yI (m + 1) ≤ 0 := fun g => by
      have := (yI_le (m := 0) (by omega) (by decide)).mp g
      omega
    have zd : yI (m + 1) + (-1) = yI m := by rw [yI_dec (by omega)]; rfl
    obtain ⟨p, τ1, hp, g1, ⟨A1, e1⟩, -⟩ := A.go (d := d + 19) X0 (m := N) (by omega) (by omega)
    obtain ⟨k, τ2, hk, g2, ⟨A2, e2⟩, -⟩ := A1.go (d := d + 19) X0 (m := 3) (by decide) (by decide)
    have g2' : Ra (d + 19) 131 [.ref r, .int 3] τ1 (.inl (some (.int (yI k)))) τ2 := g2
    obtain ⟨f1, or1⟩ := A.or
    obtain ⟨f2, or2⟩ := A1.or
    obtain ⟨kd, hkd⟩ : ∃ kd, kd = 1 + k := ⟨_, rfl⟩
    have ak : (1 : Int32) + yI k = yI kd := by rw [hkd]; exact yI_add (n := 1)
    have hpD : p < D.n := by omega
    have hnx := A2.nx X0
    -- the pixel
    have o2 := A2.2.1.ob
    obtain ⟨gg, u2, w2⟩ := A2.2.1.lrow
    have hlr := A2.2.1.lr0
    have lo2 := A2.2.1.lm0 hpD
    have lr2 := A2.2.1.lm1 hpD
    have lc2 := (A2.2.1.2.2.1 p hpD).2
    have ip : yix (yI p) D.n := yix_I (by omega) (by omega)
    have cp : (yI p).toNatClampNeg = p := yI_clamp (by omega)
    have step0 : ∀ Q, G (d + 20) 207 163 [some (.ref 0), some (.ref b), some (.ref r), some (.ref s), some (.int (yI N)), l5, some (.int y6), some (.int (yI (m + 1))), l8, l9, none] [] σ Q ↔ (if 0 < D.kd p then G (d + 20) 207 240 [some (.ref 0), some (.ref b), some (.ref r), some (.ref s), some (.int (yI N)), l5, some (.int y6), some (.int (yI (m + 1))), some (.int (yI p)), some (.int (yI kd)), none] [] τ2 Q else G (d + 20) 207 182 [some (.ref 0), some (.ref b), some (.ref r), some (.ref s), some (.int (yI N)), l5, some (.int y6), some (.int (yI (m + 1))), some (.int (yI p)), some (.int (yI kd)), none] [] τ2 Q) := by
      intro Q
      by_cases hb : D.kd p ≤ 0
      · have hb' : ¬ 0 < D.kd p := Int32.not_lt.mpr hb
        rw [if_neg hb', s_207_163]
        simp only [s_207_164, s_207_165, s_207_166, s_207_167, s_207_168, s_207_169, s_207_170, s_207_171, s_207_172, s_207_173, s_207_174, s_207_175, s_207_176, s_207_177, s_207_178, s_207_179, s_207_180, z, or1, or2, g1 _, g2' _, ak, o2, u2, w2 p hpD, ip, cp, lo2, lr2, hb, haa_t hlr (show 4 ≤ 6 ∧ 6 ≤ 8 by decide), hop_s, plamp, if_true, if_false, hgf_s, hsel_0, hsel_1, hsel_2, hsel_3, hsel_4, hsel_5, hsel_6, hsel_7, hsel_8, hset_0, hset_1, hset_2, hset_3, hset_4, hset_5, hset_6, hset_7, hset_8, hpf_s, hcl_s, hai_s, hpi_0, hpi_1, hln_0, hln_1, List.length_cons, List.length_nil, xwr_1, xwr_2, xnew_1, xnew_n, xnew_s, xnew_z, Nat.reduceLT, ite_true, and_self, hp_8_0, hp_8_1, hn_8_1, hp_8_2, hn_8_2, hp_9_0, hp_9_1, hp_9_2, hp_9_3, hp_9_4, hp_9_5, hn_9_5, hp_9_6, hn_9_6, hp_9_7, hn_9_7, hp_10_0, hp_10_1, hp_10_2, hn_10_2, hp_10_3, hn_10_3, hp_11_0, hp_12_0, hn_12_0, hp_12_1, hp_12_2, hp_12_3, hp_12_4, hp_12_5, hn_12_5, hp_12_6, hn_12_6, hp_12_7, hp_12_8, hp_13_0, hn_13_0, hp_13_1, hp_13_2, hp_13_3, hp_14_0, hn_14_0, hp_14_1, hp_14_2, hp_14_3, xdef_8, xdef_9, xdef_10, xdef_11, xdef_12, xdef_13, xdef_14, Gk_v, Gk_n, xcat_nil, xcat_i, xcat_r, xcat_l, xcat_d, Nat.zero_le, Nat.reduceAdd, Nat.reduceLeDiff, true_and, and_true, ykl_i, ykl_r, ykl_n, ykl_l]
      · have hb' : 0 < D.kd p := Int32.not_le.mp hb
        rw [if_pos hb', s_207_163]
        simp only [s_207_164, s_207_165, s_207_166, s_207_167, s_207_168, s_207_169, s_207_170, s_207_171, s_207_172, s_207_173, s_207_174, s_207_175, s_207_176, s_207_177, s_207_178, s_207_179, s_207_180, s_207_181, z, or1, or2, g1 _, g2' _, ak, o2, u2, w2 p hpD, ip, cp, lo2, lr2, hb, haa_t hlr (show 4 ≤ 6 ∧ 6 ≤ 8 by decide), hop_s, plamp, if_true, if_false, hgf_s, hsel_0, hsel_1, hsel_2, hsel_3, hsel_4, hsel_5, hsel_6, hsel_7, hsel_8, hset_0, hset_1, hset_2, hset_3, hset_4, hset_5, hset_6, hset_7, hset_8, hpf_s, hcl_s, hai_s, hpi_0, hpi_1, hln_0, hln_1, List.length_cons, List.length_nil, xwr_1, xwr_2, xnew_1, xnew_n, xnew_s, xnew_z, Nat.reduceLT, ite_true, and_self, hp_8_0, hp_8_1, hn_8_1, hp_8_2, hn_8_2, hp_9_0, hp_9_1, hp_9_2, hp_9_3, hp_9_4, hp_9_5, hn_9_5, hp_9_6, hn_9_6, hp_9_7, hn_9_7, hp_10_0, hp_10_1, hp_10_2, hn_10_2, hp_10_3, hn_10_3, hp_11_0, hp_12_0, hn_12_0, hp_12_1, hp_12_2, hp_12_3, hp_12_4, hp_12_5, hn_12_5, hp_12_6, hn_12_6, hp_12_7, hp_12_8, hp_13_0, hn_13_0, hp_13_1, hp_13_2, hp_13_3, hp_14_0, hn_14_0, hp_14_1, hp_14_2, hp_14_3, xdef_8, xdef_9, xdef_10, xdef_11, xdef_12, xdef_13, xdef_14, Gk_v, Gk_n, xcat_nil, xcat_i, xcat_r, xcat_l, xcat_d, Nat.zero_le, Nat.reduceAdd, Nat.reduceLeDiff, true_and, and_true, ykl_i, ykl_r, ykl_n, ykl_l]
    have next : ∀ (υ : xS) (m8 m9 : Option Value) Q, G (d + 20) 207 240 [some (.ref 0), some (.ref b), some (.ref r), some (.ref s), some (.int (yI N)), l5, some (.int y6), some (.int (yI (m + 1))), m8, m9, none] [] υ Q ↔ G (d + 20) 207 163 [some (.ref 0), some (.ref b), some (.ref r), some (.ref s), some (.int (yI N)), l5, some (.int y6), some (.int (yI m)), m8, m9, none] [] υ Q := by
      intro υ m8 m9 Q
      rw [s_207_240, s_207_241, zd]
      simp only [Gk_v, Gk_n, xcat_nil, xcat_i, xcat_r, xcat_l, xcat_d, Nat.zero_le, Nat.reduceAdd, Nat.reduceLeDiff, true_and, and_true, ykl_i, ykl_r, ykl_n, ykl_l]
    by_cases hb : 0 < D.kd p
    · obtain ⟨τ, l', D', m8, m9, i1, i2, ⟨i3, i3'⟩, i4, i5, i6, i7⟩ := ih τ2 l D c x (some (.int (yI p))) (some (.int (yI kd))) (by omega) (by omega) (by omega) hD hDn A2 P
      refine ⟨τ, l', D', m8, m9, fun Q => ?_, ?_, ⟨i3, by omega⟩, i4, i5, i6, i7⟩
      · rw [step0 Q, if_pos hb]
        exact (next τ2 _ _ Q).trans (i1 Q)
      · obtain ⟨⟨q1, q2, q3, q4, q5⟩, q6⟩ := i2
        exact ⟨⟨q1, q2, q3, q4.mono (fun _ _ q => q) (by omega) (by omega), q5⟩, q6⟩
    · have hk0 : D.kd p = 0 := by
        rcases hD.kdk p hpD with h | h | h | h
        · exact h
        · rw [h] at hb; exact absurd (by decide) hb
        · rw [h] at hb; exact absurd (by decide) hb
        · rw [h] at hb; exact absurd (by decide) hb
      -- its kind
      have B3 := (A2.pu X0).skd hpD (k := yI kd)
      have A3 := A2.up X0 B3
      obtain ⟨E, hE⟩ : ∃ E, E = D.skd (upd D.kd p (yI kd)) := ⟨_, rfl⟩
      rw [← hE] at A3
      have hEn : E.n = D.n := by rw [hE]; rfl
      obtain ⟨τ3, e3⟩ : ∃ τ3, τ3 = xwr τ2 (R.lm p) (plamp (yI kd) (D.pd p) (yb (D.bp p)) (D.fr p) (D.og p) (R.tk p) (R.du p) (R.fm p)) := ⟨_, rfl⟩
      rw [← e3] at A3
      have o3 := A3.2.1.ob
      obtain ⟨gg3, u3, w3⟩ := A3.2.1.lrow
      -- its period
      suffices H : ∃ τ4 pd, (((kd = 1 ∨ kd = 2) ∧ pd = 0) ∨ (kd = 3 ∧ (2 ≤ pd ∧ pd ≤ 9))) ∧ ((∀ Q, G (d + 20) 207 188 [some (.ref 0), some (.ref b), some (.ref r), some (.ref s), some (.int (yI N)), l5, some (.int y6), some (.int (yI (m + 1))), some (.int (yI p)), some (.int (yI kd)), none] [] τ3 Q ↔ G (d + 20) 207 203 [some (.ref 0), some (.ref b), some (.ref r), some (.ref s), some (.int (yI N)), l5, some (.int y6), some (.int (yI (m + 1))), some (.int (yI p)), some (.int (yI kd)), none] [] (xwr τ4 (R.lm p) (plamp (E.kd p) (yI pd) (yb (E.bp p)) (E.fr p) (E.og p) (R.tk p) (R.du p) (R.fm p))) Q) ∧ pR7 b r σ0 t0 s (c + 0) (x + 0) τ4 l R E cv) by
        obtain ⟨τ4, pd, hpd, st4, A4⟩ := H
        have B5 := (A4.pu X0).spd (p := p) (by omega) (k := yI pd)
        have A5 := A4.up X0 B5
        obtain ⟨E2, hE2⟩ : ∃ E2, E2 = E.spd (upd E.pd p (yI pd)) := ⟨_, rfl⟩
        have eE2 : E2 = ykp D p (yI kd) (yI pd) := by rw [hE2, hE]; rfl
        rw [← hE2] at A5
        obtain ⟨τ5, e5⟩ : ∃ τ5, τ5 = xwr τ4 (R.lm p) (plamp (E.kd p) (yI pd) (yb (E.bp p)) (E.fr p) (E.og p) (R.tk p) (R.du p) (R.fm p)) := ⟨_, rfl⟩
        rw [← e5] at A5 st4
        have hnx5 := A5.nx X0
        have w0 : ywl 0 = 3 := by decide
        have w24 : ywl 24 = 1 := by decide
        -- the text: which pixel
        have A6 : pR7 b r σ0 t0 s (c + 0 + 0 + 1) (x + 0 + 0 + 1) (xnew τ5 (.inl (0, (1, .inl (upd (fun _ => 0) 0 (yI p))))) 1) l R E2 cv := A5.new X0
        have q6 : (xnew τ5 (.inl (0, (1, .inl (upd (fun _ => 0) 0 (yI p))))) 1).1 τ5.2.1.1 = some (pints 1 (upd (fun _ => 0) 0 (yI p))) := pnew_at
        obtain ⟨τ6, k6, A7, F7⟩ := A6.all (d := d) X0 C (i := 0) (by decide) (M := 1) (N := 1) (v := fun _ => p) (Nat.le_refl _) (by decide) (fun j hj => by
          have : j = 0 := by omega
          subst this
          exact ⟨rfl, by show p < 10000; omega⟩) (nr := τ5.2.1.1) ⟨hnx5.1, by omega⟩ q6 (by rw [w0]; omega)
        have hl6 := pnm_len (v := fun _ => p) 1 0
        have hnx6 := A7.nx X0
        -- its kind's word
        obtain ⟨i, hi⟩ : ∃ i, i = if kd = 1 then 4 else if kd = 2 then 1 else 12 := ⟨_, rfl⟩
        have hi14 : i < 26 := by rw [hi]; split; decide; split <;> decide
        have hiw : ywl i ≤ 7 := by rw [hi]; split; decide; split <;> decide
        obtain ⟨M, hM⟩ : ∃ M, M = if kd = 3 then 1 else 0 := ⟨_, rfl⟩
        have hM1 : M ≤ 1 := by rw [hM]; split <;> decide
        have A8 : pR7 b r σ0 t0 s (c + 0 + 0 + 1 + 1) (x + 0 + 0 + 1 + 1) (xnew τ6 (.inl (0, (1, .inl (upd (fun _ => 0) 0 (yI pd))))) 1) _ R E2 cv := A7.new X0
        have q8 : (xnew τ6 (.inl (0, (1, .inl (upd (fun _ => 0) 0 (yI pd))))) 1).1 τ6.2.1.1 = some (pints 1 (upd (fun _ => 0) 0 (yI pd))) := pnew_at
        obtain ⟨τ7, k7, A9, F9⟩ := A8.all (d := d) X0 C (i := i) hi14 (M := M) (N := 1) (v := fun _ => pd) hM1 (by decide) (fun j hj => by
          have : j = 0 := by omega
          subst this
          exact ⟨rfl, by show pd < 10000; omega⟩) (nr := τ6.2.1.1) ⟨hnx6.1, by omega⟩ q8 (by simp only [List.length_append, ptw_len, w0]; omega)
        have hl7 := pnm_len (v := fun _ => pd) M 0
        obtain ⟨τ8, k8, A10, F10⟩ := A9.semi (d := d) X0 C (i := 24) (by decide) (by rw [w24]; simp only [List.length_append, ptw_len, w0]; omega)
        have e24 : ptw 24 = [59] := by decide
        rw [e24] at A10
        have hED : yDok E2 := by
          rw [eE2]
          refine yDok_kp hD hpD ?_ ?_ (fun _ _ => by have := ybad_n (k := D.kd) D.n; omega)
          · rcases hpd with ⟨rfl | rfl, -⟩ | ⟨rfl, -⟩
            · exact Or.inr (Or.inl rfl)
            · exact Or.inr (Or.inr (Or.inl rfl))
            · exact Or.inr (Or.inr (Or.inr rfl))
          · intro h3
            rcases hpd with ⟨h | h, -⟩ | ⟨-, h⟩
            · rw [h] at h3; exact absurd h3 (by decide)
            · rw [h] at h3; exact absurd h3 (by decide)
            · exact ⟨pd, by omega, rfl⟩
        have P2 := pRd_st P (pSt_bad (p := p) (kd := kd) (pd := pd) (U := (D, (fb, (false, false)))) ⟨hpD, by show D.n ≤ 40; omega⟩ hk0 (by have := ybad_n (k := D.kd) D.n; show ybad D.kd D.n < 10; omega) hpd)
        have P3 : pRd (l ++ (ptw 0 ++ pnm (fun _ => p) 0 1) ++ (ptw i ++ pnm (fun _ => pd) 0 M) ++ [59]) (E2, (fb, (false, false))) := by
          rw [eE2, List.append_assoc l, List.append_assoc l, hi, hM]
          exact P2
        obtain ⟨τ, l', D', m8, m9, i1, i2, ⟨i3, i3'⟩, i4, i5, i6, i7⟩ := ih τ8 _ E2 (c + 2) (x + 2) (some (.int (yI p))) (some (.int (yI kd))) (by omega) (by omega) (by simp only [List.length_append, List.length_cons, List.length_nil, ptw_len, w0]; omega) hED (by rw [eE2]; exact hDn) A10 P3
        refine ⟨τ, l', D', m8, m9, fun Q => ?_, ?_, ⟨i3, by simp only [List.length_append, List.length_cons, List.length_nil, ptw_len, w0] at i3'; omega⟩, i4, i5, by rw [i6, eE2]; rfl, by rw [i7, eE2]; rfl⟩
        · rw [step0 Q, if_neg hb]
          have n3 : ¬ (1 : Int32) < 0 := by decide
          have n4 : (1 : Nat) ≤ 100000 := by decide
          have c1 : (1 : Int32).toNatClampNeg = 1 := rfl
          have y10 : yix 0 1 := by unfold yix; decide
          have r5 : τ5.2.1.1 < 900000 := by omega
          have r5' : τ5.2.1.1 < 1000000 := by omega
          have r6 : τ6.2.1.1 < 900000 := by omega
          have r6' : τ6.2.1.1 < 1000000 := by omega
          have k6' : Ra (d + 19) 205 [.ref 0, .ref b, .ref 1000100, .int 1, .ref τ5.2.1.1] (xnew τ5 (.inl (0, (1, .inl (upd (fun _ => 0) 0 (yI p))))) 1) (.inl none) τ6 := k6
          have k8' : Ra (d + 19) 182 [.ref 0, .ref b, .ref 1000124] τ7 (.inl none) τ8 := k8
          have o6 : ∀ e m, xRd (xnew τ6 e m) s = _ := fun e m => prd_new (A7.1.Z X0) A7.2.1.1.1 A7.2.1.ob
          obtain ⟨gg6, u6, w6⟩ := A7.2.1.lrow
          have u6' : ∀ e m, xRd (xnew τ6 e m) R.lr = _ := fun e m => prd_new (A7.1.Z X0) hlr u6
          have hpE : p < E2.n := by rw [eE2]; exact hpD
          have l6 : ∀ e m, xRd (xnew τ6 e m) (R.lm p) = _ := fun e m => prd_new (A7.1.Z X0) lo2 (A7.2.1.lm1 hpE)
          have ip2 : yix (yI p) E2.n := by rw [eE2]; exact ip
          have pdE : E2.pd p = yI pd := by rw [eE2]; exact yupd_same
          have ek : xwr τ2 (R.lm p) (.inr (9, [.int (yI kd), .int (D.pd p), .int (yb (D.bp p)), .int (D.fr p), .int (D.og p), .ref (R.tk p), .ref (R.du p), .ref (R.fm p)])) = τ3 := e3.symm
          simp only [s_207_182, s_207_183, s_207_184, s_207_185, s_207_186, s_207_187, o2, u2, w2 p hpD, ip, cp, lo2, lc2, haa_t hlr (show 4 ≤ 6 ∧ 6 ≤ 8 by decide), hop_s, plamp, hgf_s, hsel_0, hsel_1, hsel_2, hsel_3, hsel_4, hsel_5, hsel_6, hsel_7, hsel_8, hset_0, hset_1, hset_2, hset_3, hset_4, hset_5, hset_6, hset_7, hset_8, hpf_s, hcl_s, hai_s, hpi_0, hpi_1, hln_0, hln_1, List.length_cons, List.length_nil, xwr_1, xwr_2, xnew_1, xnew_n, xnew_s, xnew_z, Nat.reduceLT, ite_true, and_self, hp_8_0, hp_8_1, hn_8_1, hp_8_2, hn_8_2, hp_9_0, hp_9_1, hp_9_2, hp_9_3, hp_9_4, hp_9_5, hn_9_5, hp_9_6, hn_9_6, hp_9_7, hn_9_7, hp_10_0, hp_10_1, hp_10_2, hn_10_2, hp_10_3, hn_10_3, hp_11_0, hp_12_0, hn_12_0, hp_12_1, hp_12_2, hp_12_3, hp_12_4, hp_12_5, hn_12_5, hp_12_6, hn_12_6, hp_12_7, hp_12_8, hp_13_0, hn_13_0, hp_13_1, hp_13_2, hp_13_3, hp_14_0, hn_14_0, hp_14_1, hp_14_2, hp_14_3, xdef_8, xdef_9, xdef_10, xdef_11, xdef_12, xdef_13, xdef_14, Gk_v, Gk_n, xcat_nil, xcat_i, xcat_r, xcat_l, xcat_d, Nat.zero_le, Nat.reduceAdd, Nat.reduceLeDiff, true_and, and_true, ykl_i, ykl_r, ykl_n, ykl_l]
          rw [ek]
          refine (st4 Q).trans ?_
          have or3 : xRd τ6 1000003 = _ := xRd_rows (σ := τ6) (i := 0) (by decide)
          simp only [s_207_203, s_207_204, s_207_205, s_207_206, s_207_207, s_207_208, s_207_209, s_207_209i, s_207_210, s_207_211, s_207_212, s_207_213, n3, n4, c1, r5, r5', y10, ycl_0, pnew_at, pwr_nw, k6' _, not_false_eq_true, hgf_s, hsel_0, hsel_1, hsel_2, hsel_3, hsel_4, hsel_5, hsel_6, hsel_7, hsel_8, hset_0, hset_1, hset_2, hset_3, hset_4, hset_5, hset_6, hset_7, hset_8, hpf_s, hcl_s, hai_s, hpi_0, hpi_1, hln_0, hln_1, List.length_cons, List.length_nil, xwr_1, xwr_2, xnew_1, xnew_n, xnew_s, xnew_z, Nat.reduceLT, ite_true, and_self, hp_8_0, hp_8_1, hn_8_1, hp_8_2, hn_8_2, hp_9_0, hp_9_1, hp_9_2, hp_9_3, hp_9_4, hp_9_5, hn_9_5, hp_9_6, hn_9_6, hp_9_7, hn_9_7, hp_10_0, hp_10_1, hp_10_2, hn_10_2, hp_10_3, hn_10_3, hp_11_0, hp_12_0, hn_12_0, hp_12_1, hp_12_2, hp_12_3, hp_12_4, hp_12_5, hn_12_5, hp_12_6, hn_12_6, hp_12_7, hp_12_8, hp_13_0, hn_13_0, hp_13_1, hp_13_2, hp_13_3, hp_14_0, hn_14_0, hp_14_1, hp_14_2, hp_14_3, xdef_8, xdef_9, xdef_10, xdef_11, xdef_12, xdef_13, xdef_14, Gk_v, Gk_n, xcat_nil, xcat_i, xcat_r, xcat_l, xcat_d, Nat.zero_le, Nat.reduceAdd, Nat.reduceLeDiff, true_and, and_true, ykl_i, ykl_r, ykl_n, ykl_l]
          rcases hpd with ⟨rfl | rfl, hpd0⟩ | ⟨rfl, hpd0⟩
          · have hi4 : i = 4 := hi
            have hM0 : M = 0 := hM
            subst hi4 hM0
            have k7' : Ra (d + 19) 205 [.ref 0, .ref b, .ref 1000104, .int 0, .ref τ6.2.1.1] (xnew τ6 (.inl (0, (1, .inl (upd (fun _ => 0) 0 (yI pd))))) 1) (.inl none) τ7 := k7
            have hx := fun (F : Value → Prop) => haa_9 (a := 1000003) (i := 1000104) (x := yI 1) (n := (xrows 0).length) (g := fun j => ((xrows 0)[j]?).map (fun z => 1000100 + z)) (F := F) (by decide) (by unfold yix; decide) rfl
            have z3 : ¬ yI 1 = 3 := by decide
            simp only [s_207_214, s_207_215, s_207_216, s_207_217, s_207_218, s_207_219, s_207_220, s_207_221, s_207_222, s_207_223, s_207_224, s_207_225, s_207_226, s_207_227, s_207_227i, s_207_228, s_207_229, s_207_230, s_207_231, s_207_232, s_207_233, s_207_234, s_207_235, s_207_236, s_207_237, s_207_238, s_207_239, or3, hx, z3, n3, n4, c1, r6, r6', y10, ycl_0, o6, u6', w6 p hpE, l6, ip2, cp, lo2, pdE, pnew_at, pwr_nw, k7' _, k8' _, haa_t hlr (show 4 ≤ 6 ∧ 6 ≤ 8 by decide), hop_s, plamp, ne_eq, not_true_eq_false, not_false_eq_true, if_true, if_false, hgf_s, hsel_0, hsel_1, hsel_2, hsel_3, hsel_4, hsel_5, hsel_6, hsel_7, hsel_8, hset_0, hset_1, hset_2, hset_3, hset_4, hset_5, hset_6, hset_7, hset_8, hpf_s, hcl_s, hai_s, hpi_0, hpi_1, hln_0, hln_1, List.length_cons, List.length_nil, xwr_1, xwr_2, xnew_1, xnew_n, xnew_s, xnew_z, Nat.reduceLT, ite_true, and_self, hp_8_0, hp_8_1, hn_8_1, hp_8_2, hn_8_2, hp_9_0, hp_9_1, hp_9_2, hp_9_3, hp_9_4, hp_9_5, hn_9_5, hp_9_6, hn_9_6, hp_9_7, hn_9_7, hp_10_0, hp_10_1, hp_10_2, hn_10_2, hp_10_3, hn_10_3, hp_11_0, hp_12_0, hn_12_0, hp_12_1, hp_12_2, hp_12_3, hp_12_4, hp_12_5, hn_12_5, hp_12_6, hn_12_6, hp_12_7, hp_12_8, hp_13_0, hn_13_0, hp_13_1, hp_13_2, hp_13_3, hp_14_0, hn_14_0, hp_14_1, hp_14_2, hp_14_3, xdef_8, xdef_9, xdef_10, xdef_11, xdef_12, xdef_13, xdef_14, Gk_v, Gk_n, xcat_nil, xcat_i, xcat_r, xcat_l, xcat_d, Nat.zero_le, Nat.reduceAdd, Nat.reduceLeDiff, true_and, and_true, ykl_i, ykl_r, ykl_n, ykl_l]
            exact (next τ8 _ _ Q).trans (i1 Q)
          · have hi4 : i = 1 := hi
            have hM0 : M = 0 := hM
            subst hi4 hM0
            have k7' : Ra (d + 19) 205 [.ref 0, .ref b, .ref 1000101, .int 0, .ref τ6.2.1.1] (xnew τ6 (.inl (0, (1, .inl (upd (fun _ => 0) 0 (yI pd))))) 1) (.inl none) τ7 := k7
            have hx := fun (F : Value → Prop) => haa_9 (a := 1000003) (i := 1000101) (x := yI 2) (n := (xrows 0).length) (g := fun j => ((xrows 0)[j]?).map (fun z => 1000100 + z)) (F := F) (by decide) (by unfold yix; decide) rfl
            have z3 : ¬ yI 2 = 3 := by decide
            simp only [s_207_214, s_207_215, s_207_216, s_207_217, s_207_218, s_207_219, s_207_220, s_207_221, s_207_222, s_207_223, s_207_224, s_207_225, s_207_226, s_207_227, s_207_227i, s_207_228, s_207_229, s_207_230, s_207_231, s_207_232, s_207_233, s_207_234, s_207_235, s_207_236, s_207_237, s_207_238, s_207_239, or3, hx, z3, n3, n4, c1, r6, r6', y10, ycl_0, o6, u6', w6 p hpE, l6, ip2, cp, lo2, pdE, pnew_at, pwr_nw, k7' _, k8' _, haa_t hlr (show 4 ≤ 6 ∧ 6 ≤ 8 by decide), hop_s, plamp, ne_eq, not_true_eq_false, not_false_eq_true, if_true, if_false, hgf_s, hsel_0, hsel_1, hsel_2, hsel_3, hsel_4, hsel_5, hsel_6, hsel_7, hsel_8, hset_0, hset_1, hset_2, hset_3, hset_4, hset_5, hset_6, hset_7, hset_8, hpf_s, hcl_s, hai_s, hpi_0, hpi_1, hln_0, hln_1, List.length_cons, List.length_nil, xwr_1, xwr_2, xnew_1, xnew_n, xnew_s, xnew_z, Nat.reduceLT, ite_true, and_self, hp_8_0, hp_8_1, hn_8_1, hp_8_2, hn_8_2, hp_9_0, hp_9_1, hp_9_2, hp_9_3, hp_9_4, hp_9_5, hn_9_5, hp_9_6, hn_9_6, hp_9_7, hn_9_7, hp_10_0, hp_10_1, hp_10_2, hn_10_2, hp_10_3, hn_10_3, hp_11_0, hp_12_0, hn_12_0, hp_12_1, hp_12_2, hp_12_3, hp_12_4, hp_12_5, hn_12_5, hp_12_6, hn_12_6, hp_12_7, hp_12_8, hp_13_0, hn_13_0, hp_13_1, hp_13_2, hp_13_3, hp_14_0, hn_14_0, hp_14_1, hp_14_2, hp_14_3, xdef_8, xdef_9, xdef_10, xdef_11, xdef_12, xdef_13, xdef_14, Gk_v, Gk_n, xcat_nil, xcat_i, xcat_r, xcat_l, xcat_d, Nat.zero_le, Nat.reduceAdd, Nat.reduceLeDiff, true_and, and_true, ykl_i, ykl_r, ykl_n, ykl_l]
            exact (next τ8 _ _ Q).trans (i1 Q)
          · have hi4 : i = 12 := hi
            have hM0 : M = 1 := hM
            subst hi4 hM0
            have k7' : Ra (d + 19) 205 [.ref 0, .ref b, .ref 1000112, .int 1, .ref τ6.2.1.1] (xnew τ6 (.inl (0, (1, .inl (upd (fun _ => 0) 0 (yI pd))))) 1) (.inl none) τ7 := k7
            have hx := fun (F : Value → Prop) => haa_9 (a := 1000003) (i := 1000112) (x := yI 3) (n := (xrows 0).length) (g := fun j => ((xrows 0)[j]?).map (fun z => 1000100 + z)) (F := F) (by decide) (by unfold yix; decide) rfl
            have z3 : yI 3 = 3 := by decide
            have hx3 : ∀ F : Value → Prop, haa 1000003 3 (some (.inl (9, ((xrows 0).length, .inr (.inr (.inr (.inr (fun j => ((xrows 0)[j]?).map (fun z => 1000100 + z)))))))))  F ↔ F (.ref 1000112) := hx
            simp only [s_207_214, s_207_215, s_207_216, s_207_217, s_207_218, s_207_219, s_207_220, s_207_221, s_207_222, s_207_223, s_207_224, s_207_225, s_207_226, s_207_227, s_207_227i, s_207_228, s_207_229, s_207_230, s_207_231, s_207_232, s_207_233, s_207_234, s_207_235, s_207_236, s_207_237, s_207_238, s_207_239, or3, hx3, z3, n3, n4, c1, r6, r6', y10, ycl_0, o6, u6', w6 p hpE, l6, ip2, cp, lo2, pdE, pnew_at, pwr_nw, k7' _, k8' _, haa_t hlr (show 4 ≤ 6 ∧ 6 ≤ 8 by decide), hop_s, plamp, ne_eq, not_true_eq_false, not_false_eq_true, if_true, if_false, hgf_s, hsel_0, hsel_1, hsel_2, hsel_3, hsel_4, hsel_5, hsel_6, hsel_7, hsel_8, hset_0, hset_1, hset_2, hset_3, hset_4, hset_5, hset_6, hset_7, hset_8, hpf_s, hcl_s, hai_s, hpi_0, hpi_1, hln_0, hln_1, List.length_cons, List.length_nil, xwr_1, xwr_2, xnew_1, xnew_n, xnew_s, xnew_z, Nat.reduceLT, ite_true, and_self, hp_8_0, hp_8_1, hn_8_1, hp_8_2, hn_8_2, hp_9_0, hp_9_1, hp_9_2, hp_9_3, hp_9_4, hp_9_5, hn_9_5, hp_9_6, hn_9_6, hp_9_7, hn_9_7, hp_10_0, hp_10_1, hp_10_2, hn_10_2, hp_10_3, hn_10_3, hp_11_0, hp_12_0, hn_12_0, hp_12_1, hp_12_2, hp_12_3, hp_12_4, hp_12_5, hn_12_5, hp_12_6, hn_12_6, hp_12_7, hp_12_8, hp_13_0, hn_13_0, hp_13_1, hp_13_2, hp_13_3, hp_14_0, hn_14_0, hp_14_1, hp_14_2, hp_14_3, xdef_8, xdef_9, xdef_10, xdef_11, xdef_12, xdef_13, xdef_14, Gk_v, Gk_n, xcat_nil, xcat_i, xcat_r, xcat_l, xcat_d, Nat.zero_le, Nat.reduceAdd, Nat.reduceLeDiff, true_and, and_true, ykl_i, ykl_r, ykl_n, ykl_l]
            exact (next τ8 _ _ Q).trans (i1 Q)
        · obtain ⟨⟨q1, q2, q3, q4, q5⟩, q6⟩ := i2
          exact ⟨⟨q1, q2, q3, q4.mono (fun _ _ q => q) (by omega) (by omega), q5⟩, q6⟩
      -- the period itself
      have hpE : p < E.n := by omega
      have ipE : yix (yI p) E.n := by rw [hEn]; exact ip
      by_cases h3 : kd = 3
      · obtain ⟨v, τ4, hv, g4, ⟨A4, e4⟩, -⟩ := A3.go (d := d + 19) X0 (m := 3) (by decide) (by decide)
        have g4' : Ra (d + 19) 131 [.ref r, .int 3] τ3 (.inl (some (.int (yI v)))) τ4 := g4
        obtain ⟨f3, or3⟩ := A3.or
        refine ⟨τ4, 2 + v, Or.inr ⟨h3, by omega, by omega⟩, fun Q => ?_, A4⟩
        have z3 : yI kd = 3 := by rw [h3]; rfl
        have a2 : (2 : Int32) + yI v = yI (2 + v) := yI_add (n := 2)
        have lc4 := (A4.2.1.2.2.1 p hpE).2
        simp only [s_207_188, s_207_189, s_207_190, s_207_191, s_207_192, s_207_193, s_207_194, s_207_195, s_207_196, s_207_197, s_207_198, s_207_199, s_207_200, s_207_201, s_207_202, o3, u3, w3 p hpE, ipE, cp, lo2, lc4, z3, a2, or3, g4' _, haa_t hlr (show 4 ≤ 6 ∧ 6 ≤ 8 by decide), hop_s, plamp, ne_eq, not_true_eq_false, if_false, hgf_s, hsel_0, hsel_1, hsel_2, hsel_3, hsel_4, hsel_5, hsel_6, hsel_7, hsel_8, hset_0, hset_1, hset_2, hset_3, hset_4, hset_5, hset_6, hset_7, hset_8, hpf_s, hcl_s, hai_s, hpi_0, hpi_1, hln_0, hln_1, List.length_cons, List.length_nil, xwr_1, xwr_2, xnew_1, xnew_n, xnew_s, xnew_z, Nat.reduceLT, ite_true, and_self, hp_8_0, hp_8_1, hn_8_1, hp_8_2, hn_8_2, hp_9_0, hp_9_1, hp_9_2, hp_9_3, hp_9_4, hp_9_5, hn_9_5, hp_9_6, hn_9_6, hp_9_7, hn_9_7, hp_10_0, hp_10_1, hp_10_2, hn_10_2, hp_10_3, hn_10_3, hp_11_0, hp_12_0, hn_12_0, hp_12_1, hp_12_2, hp_12_3, hp_12_4, hp_12_5, hn_12_5, hp_12_6, hn_12_6, hp_12_7, hp_12_8, hp_13_0, hn_13_0, hp_13_1, hp_13_2, hp_13_3, hp_14_0, hn_14_0, hp_14_1, hp_14_2, hp_14_3, xdef_8, xdef_9, xdef_10, xdef_11, xdef_12, xdef_13, xdef_14, Gk_v, Gk_n, xcat_nil, xcat_i, xcat_r, xcat_l, xcat_d, Nat.zero_le, Nat.reduceAdd, Nat.reduceLeDiff, true_and, and_true, ykl_i, ykl_r, ykl_n, ykl_l]
      · refine ⟨τ3, 0, Or.inl ⟨by omega, rfl⟩, fun Q => ?_, A3⟩
        have z3 : ¬ yI kd = 3 := fun e => h3 ((yI_inj (m := 3) (by omega) (by decide)).mp e)
        have lc4 := (A3.2.1.2.2.1 p hpE).2
        simp only [s_207_188, s_207_189, s_207_190, s_207_191, s_207_192, s_207_193, s_207_194, s_207_195, s_207_196, s_207_197, s_207_198, s_207_199, s_207_200, s_207_201, s_207_202, o3, u3, w3 p hpE, ipE, cp, lo2, lc4, z3, haa_t hlr (show 4 ≤ 6 ∧ 6 ≤ 8 by decide), hop_s, plamp, ne_eq, not_false_eq_true, if_true, hgf_s, hsel_0, hsel_1, hsel_2, hsel_3, hsel_4, hsel_5, hsel_6, hsel_7, hsel_8, hset_0, hset_1, hset_2, hset_3, hset_4, hset_5, hset_6, hset_7, hset_8, hpf_s, hcl_s, hai_s, hpi_0, hpi_1, hln_0, hln_1, List.length_cons, List.length_nil, xwr_1, xwr_2, xnew_1, xnew_n, xnew_s, xnew_z, Nat.reduceLT, ite_true, and_self, hp_8_0, hp_8_1, hn_8_1, hp_8_2, hn_8_2, hp_9_0, hp_9_1, hp_9_2, hp_9_3, hp_9_4, hp_9_5, hn_9_5, hp_9_6, hn_9_6, hp_9_7, hn_9_7, hp_10_0, hp_10_1, hp_10_2, hn_10_2, hp_10_3, hn_10_3, hp_11_0, hp_12_0, hn_12_0, hp_12_1, hp_12_2, hp_12_3, hp_12_4, hp_12_5, hn_12_5, hp_12_6, hn_12_6, hp_12_7, hp_12_8, hp_13_0, hn_13_0, hp_13_1, hp_13_2, hp_13_3, hp_14_0, hn_14_0, hp_14_1, hp_14_2, hp_14_3, xdef_8, xdef_9, xdef_10, xdef_11, xdef_12, xdef_13, xdef_14, Gk_v, Gk_n, xcat_nil, xcat_i, xcat_r, xcat_l, xcat_d, Nat.zero_le, Nat.reduceAdd, Nat.reduceLeDiff, true_and, and_true, ykl_i, ykl_r, ykl_n, ykl_l]
        exact Iff.rfl
end

/-! ===== strips by chance: feeds ===== -/
def pR.sfr (R : pR) (fr : Nat) (fg : Nat → Nat) : pR := (R.1, (R.2.1, (fr, (fg, R.2.2.2.2))))
def pv2 (a b : Nat) : Nat → Nat := fun j => if j = 0 then a else b
section
variable {d : Nat} {D D' : yD} {b r s c x : Nat} {σ σ0 τ : xS} {t0 : yT} {l w : List Nat} {R : pR} {cv : Value} {dn en : Int32} {lo hi c' s' : Nat}
/-- a strip gets other feeds -/
theorem pS.feeds (S : pS σ s R D cv dn en) {FR : Nat} {fg : Nat → Nat} {g : Nat → Option Nat} (h1 : D'.n = D.n) (hq : ∀ q, plkp R R D D' q) (hn : ((D'.un = D.un ∧ D'.lv = D.lv) ∧ (D'.sh = D.sh ∧ D'.ac = D.ac))) (hFR : FR < 1000000) (hrow : σ.1 FR = some (prow 5 D'.f g)) (hg : ∀ q, q < D'.f → g q = some (fg q)) (hfg : ∀ q, q < D'.f → fg q < 1000000 ∧ ∃ k : Nat → Int32, σ.1 (fg q) = some (pints 2 k) ∧ (k 0 = yI (D'.fp q) ∧ k 1 = D'.fl q)) : pS (xwr σ s (.inr (12, [.ref R.lr, .int D.un, .int D.lv, .int D.sh, .int D.ac, .ref FR, cv, .int dn, .int en]))) s (R.sfr FR fg) D' cv dn en := by
  obtain ⟨⟨a1, a2⟩, ⟨b1, g', b2, b3⟩, c1, e1, -, -⟩ := S
  obtain ⟨⟨u1, u2⟩, u3, u4⟩ := hn
  have hk : ∀ a e, σ.1 a = some e → (∀ fs, e ≠ .inr (12, fs)) → ∀ y, (xwr σ s y).1 a = some e := by
    intro a e h hne y
    rw [xwr_1]
    split
    · rename_i hb
      rw [hb, a2] at h
      exact absurd (Option.some.inj h).symm (hne _)
    · exact h
  have hco : ∀ {a y}, pC σ a y → ∀ z, pC (xwr σ s z) a y := by
    rintro a y ⟨h0, k, h1, h2⟩ z
    exact ⟨h0, k, hk a _ h1 (by intros; simp) z, h2⟩
  refine ⟨⟨a1, by rw [u1, u2, u3, u4]; exact pwr_at⟩, ⟨b1, g', ?_, ?_⟩, fun p hp => ?_, fun p hp => ?_, ⟨hFR, g, hk _ _ hrow (by intros; simp [prow]) _, hg⟩, fun q hq' => ?_⟩
  · rw [h1]; exact hk _ _ b2 (by intros; simp [prow]) _
  · rw [h1]; exact b3
  · rw [h1] at hp
    obtain ⟨k1, k2, k3, k4, k5, k6, k7, k8, k9, k10, k11⟩ := hq p
    rw [k1, k2, k3, k4, k5]
    exact ⟨(c1 p hp).1, hk _ _ (c1 p hp).2 (by intros; simp [plamp]) _⟩
  · rw [h1] at hp
    obtain ⟨k1, k2, k3, k4, k5, k6, k7, k8, k9, k10, k11⟩ := hq p
    obtain ⟨⟨m1, m2⟩, ⟨m3, m4⟩, m5, m6⟩ := e1 p hp
    rw [k6, k7, k8]
    exact ⟨⟨hco m1 _, m2⟩, ⟨hco m3 _, m4⟩, hco m5 _, m6⟩
  · obtain ⟨j1, k, j2, j3⟩ := hfg q hq'
    exact ⟨j1, k, hk _ _ j2 (by intros; simp) _, j3⟩
/-- a feed's limit -/
theorem pU.lim (B : pU lo hi s cv dn en σ0 c' s' σ R D) {q : Nat} (hq : q < D.f) {k : Nat → Int32} (hk : σ.1 (R.fg q) = some (pints 2 k)) (h0 : k 0 = yI (D.fp q)) {y : Int32} : pU lo hi s cv dn en σ0 c' s' (xwr σ (R.fg q) (pints 2 (upd k 1 y))) R (D.sfl (upd D.fl q y)) := by
  obtain ⟨S, Z, J, F⟩ := B
  have hin := J.2.2.2.1.2 q hq
  have hnc : ¬ pco (pints 2 k) := by
    rintro (⟨m, y, h4, h5⟩ | ⟨fs, h5⟩)
    · simp only [Sum.inl.injEq, Prod.mk.injEq] at h5
      omega
    · simp at h5
  have hkp : ∀ a e, σ.1 a = some e → (∀ g, e ≠ .inl (0, (2, g))) → (xwr σ (R.fg q) (pints 2 (upd k 1 y))).1 a = some e := fun a e h hne => by
    rw [xwr_1]
    split
    · rename_i hb
      rw [hb, hk] at h
      exact absurd (Option.some.inj h).symm (hne _)
    · exact h
  have hco : ∀ {a z}, pC σ a z → pC (xwr σ (R.fg q) (pints 2 (upd k 1 y))) a z := by
    rintro a z ⟨g0, c, g1, g2⟩
    exact ⟨g0, c, hkp a _ g1 (by intros; simp), g2⟩
  refine ⟨?_, pZ_wr Z hk, J.to ⟨rfl, rfl, rfl, rfl⟩ rfl rfl, pF_own F Z hk hnc hin⟩
  obtain ⟨⟨a1, a2⟩, ⟨b1, g', b2, b3⟩, c1, e1, ⟨f1, g2, f2, f3⟩, i1⟩ := S
  refine ⟨⟨a1, hkp _ _ a2 (by intros; simp)⟩, ⟨b1, g', hkp _ _ b2 (by intros; simp [prow]), b3⟩, fun p hp => ⟨(c1 p hp).1, hkp _ _ (c1 p hp).2 (by intros; simp [plamp])⟩, fun p hp => ?_, ⟨f1, g2, hkp _ _ f2 (by intros; simp [prow]), f3⟩, fun p hp => ?_⟩
  · obtain ⟨⟨m1, m2⟩, ⟨m3, m4⟩, m5, m6⟩ := e1 p hp
    exact ⟨⟨hco m1, m2⟩, ⟨hco m3, m4⟩, hco m5, m6⟩
  · obtain ⟨j1, k', j2, j3, j4⟩ := i1 p hp
    by_cases hpq : p = q
    · subst hpq
      refine ⟨j1, upd k 1 y, pwr_at, ?_, ?_⟩
      · rw [yupd_ne (by decide)]; exact h0
      · show upd k 1 y 1 = upd D.fl p y p
        rw [yupd_same, yupd_same]
    · refine ⟨j1, k', ?_, j3, ?_⟩
      · rw [xwr_1, if_neg (fun e => hpq (J.2.2.2.2.2 p q hp hq e))]
        exact j2
      · show _ = upd D.fl q y p
        rw [yupd_ne hpq]
        exact j4
variable {D0 : yD} {k0 : Nat} {E0 : Nat → yD} {s0 s1 : Option yD} {n0 : Nat} {B0 : Nat → Nat} {eo en' : Int32}
/-- the head -/
theorem l_207b (X0 : pX0 b r σ0 t0) (C : yCI t0 D0 k0 E0 s0 s1 n0 B0 eo en') {N un : Nat} (hN : 1 ≤ N ∧ N ≤ 9) (hun : 1 ≤ un ∧ un ≤ 100) (A : pR7 b r σ0 t0 s c x σ [] R (yD0 N un) cv) (hr : σ.2.1.1 + 1 < 900000) {l5 : Option Value} : ∃ τ l, (∀ Q, G (d + 20) 207 35 [some (.ref 0), some (.ref b), some (.ref r), some (.ref s), some (.int (yI N)), l5, none, none, none, none, none] [] σ Q ↔ G (d + 20) 207 55 [some (.ref 0), some (.ref b), some (.ref r), some (.ref s), some (.int (yI N)), l5, none, none, none, none, none] [] τ Q) ∧ (pR7 b r σ0 t0 s (c + 1) (x + 2) τ l R (yD0 N un) cv ∧ (pRd l (yD0 N un, (0, (false, false))) ∧ l.length ≤ 20)) := by
  have hnx := A.nx X0
  have hs := A.2.1.1.1
  have o1 : ∀ e m, xRd (xnew σ e m) s = _ := fun e m => prd_new (A.1.Z X0) hs A.2.1.ob
  have A1 : pR7 b r σ0 t0 s (c + 1) (x + 2) (xnew σ (.inl (0, (2, .inl (upd (upd (fun _ => 0) 0 (yI N)) 1 (yI un))))) 2) [] R (yD0 N un) cv := A.new X0
  have q1 : (xnew σ (.inl (0, (2, .inl (upd (upd (fun _ => 0) 0 (yI N)) 1 (yI un))))) 2).1 σ.2.1.1 = some (pints 2 (upd (upd (fun _ => 0) 0 (yI N)) 1 (yI un))) := pnew_at
  have w11 : ywl 11 = 5 := by decide
  have w24 : ywl 24 = 1 := by decide
  obtain ⟨τ1, k1, A2, -⟩ := A1.all (d := d) X0 C (i := 11) (by decide) (M := 2) (N := 2) (v := pv2 N un) (Nat.le_refl _) (by decide) (fun j hj => by
    rcases (by omega : j = 0 ∨ j = 1) with rfl | rfl
    · exact ⟨rfl, by show N < 10000; omega⟩
    · exact ⟨rfl, by show un < 10000; omega⟩) (nr := σ.2.1.1) ⟨hnx.1, by omega⟩ q1 (by rw [w11]; decide)
  have hl2 := pnm_len (v := pv2 N un) 2 0
  obtain ⟨τ2, k2, A3, -⟩ := A2.semi (d := d) X0 C (i := 24) (by decide) (by rw [w24]; simp only [List.length_append, List.length_nil, ptw_len, w11]; omega)
  have e24 : ptw 24 = [59] := by decide
  rw [e24, List.nil_append] at A3
  refine ⟨τ2, _, fun Q => ?_, A3, pRd_head ⟨hN.1, by show N ≤ 40; omega⟩ hun, by simp only [List.length_append, List.length_cons, List.length_nil, ptw_len, w11]; omega⟩
  have n3 : ¬ (2 : Int32) < 0 := by decide
  have n4 : (2 : Nat) ≤ 100000 := by decide
  have c2 : (2 : Int32).toNatClampNeg = 2 := rfl
  have r6 : σ.2.1.1 < 900000 := by omega
  have r6' : σ.2.1.1 < 1000000 := by omega
  have k1' : Ra (d + 19) 205 [.ref 0, .ref b, .ref 1000111, .int 2, .ref σ.2.1.1] (xnew σ (.inl (0, (2, .inl (upd (upd (fun _ => 0) 0 (yI N)) 1 (yI un))))) 2) (.inl none) τ1 := k1
  have k2' : Ra (d + 19) 182 [.ref 0, .ref b, .ref 1000124] τ1 (.inl none) τ2 := k2
  have eun : (yD0 N un).un = yI un := rfl
  simp only [s_207_35, s_207_36, s_207_37, s_207_38, s_207_39, s_207_40, s_207_41, s_207_41i, s_207_42, s_207_43, s_207_44, s_207_45, s_207_45i, s_207_46, s_207_47, s_207_48, s_207_49, s_207_50, s_207_51, s_207_52, s_207_53, s_207_54, o1, eun, n3, n4, c2, r6, r6', yix2_0, yix2_1, ycl_0, ycl_1, pnew_at, pwr_nw, k1' _, k2' _, not_false_eq_true, hgf_s, hsel_0, hsel_1, hsel_2, hsel_3, hsel_4, hsel_5, hsel_6, hsel_7, hsel_8, hset_0, hset_1, hset_2, hset_3, hset_4, hset_5, hset_6, hset_7, hset_8, hpf_s, hcl_s, hai_s, hpi_0, hpi_1, hln_0, hln_1, List.length_cons, List.length_nil, xwr_1, xwr_2, xnew_1, xnew_n, xnew_s, xnew_z, Nat.reduceLT, ite_true, and_self, hp_8_0, hp_8_1, hn_8_1, hp_8_2, hn_8_2, hp_9_0, hp_9_1, hp_9_2, hp_9_3, hp_9_4, hp_9_5, hn_9_5, hp_9_6, hn_9_6, hp_9_7, hn_9_7, hp_10_0, hp_10_1, hp_10_2, hn_10_2, hp_10_3, hn_10_3, hp_11_0, hp_12_0, hn_12_0, hp_12_1, hp_12_2, hp_12_3, hp_12_4, hp_12_5, hn_12_5, hp_12_6, hn_12_6, hp_12_7, hp_12_8, hp_13_0, hn_13_0, hp_13_1, hp_13_2, hp_13_3, hp_14_0, hn_14_0, hp_14_1, hp_14_2, hp_14_3, xdef_8, xdef_9, xdef_10, xdef_11, xdef_12, xdef_13, xdef_14, Gk_v, Gk_n, xcat_nil, xcat_i, xcat_r, xcat_l, xcat_d, Nat.zero_le, Nat.reduceAdd, Nat.reduceLeDiff, true_and, and_true, ykl_i, ykl_r, ykl_n, ykl_l]
/-- where the strip is split, and a limit -/
theorem l_207c (X0 : pX0 b r σ0 t0) {N : Nat} (hN : 1 ≤ N ∧ N ≤ 9) (A : pR7 b r σ0 t0 s c x σ l R D cv) {l5 : Option Value} (hl5 : ∃ y, l5 = some (.int y)) : ∃ τ sp lim, (sp < N ∧ lim < 10000) ∧ ((∀ Q, G (d + 20) 207 55 [some (.ref 0), some (.ref b), some (.ref r), some (.ref s), some (.int (yI N)), l5, none, none, none, none, none] [] σ Q ↔ G (d + 20) 207 82 [some (.ref 0), some (.ref b), some (.ref r), some (.ref s), some (.int (yI N)), some (.int (yI sp)), some (.int (yI lim)), none, none, none, none] [] τ Q) ∧ (pR7 b r σ0 t0 s c x τ l R D cv ∧ τ.2 = σ.2)) := by
  obtain ⟨y5, rfl⟩ := hl5
  obtain ⟨v1, τ1, hv1, g1, ⟨A1, e1⟩, -⟩ := A.go (d := d + 19) X0 (m := 3) (by decide) (by decide)
  have g1' : Ra (d + 19) 131 [.ref r, .int 3] σ (.inl (some (.int (yI v1)))) τ1 := g1
  obtain ⟨f1, or1⟩ := A.or
  obtain ⟨f2, or2⟩ := A1.or
  suffices H : ∃ τ2 sp, sp < N ∧ ((∀ Q, G (d + 20) 207 55 [some (.ref 0), some (.ref b), some (.ref r), some (.ref s), some (.int (yI N)), some (.int y5), none, none, none, none, none] [] σ Q ↔ G (d + 20) 207 72 [some (.ref 0), some (.ref b), some (.ref r), some (.ref s), some (.int (yI N)), some (.int (yI sp)), none, none, none, none, none] [] τ2 Q) ∧ (pR7 b r σ0 t0 s c x τ2 l R D cv ∧ τ2.2 = σ.2)) by
    obtain ⟨τ2, sp, hsp, st, A2, e2⟩ := H
    obtain ⟨v3, τ3, hv3, g3, ⟨A3, e3⟩, -⟩ := A2.go (d := d + 19) X0 (m := 2) (by decide) (by decide)
    have g3' : Ra (d + 19) 131 [.ref r, .int 2] τ2 (.inl (some (.int (yI v3)))) τ3 := g3
    obtain ⟨f3, or3⟩ := A2.or
    obtain ⟨f4, or4⟩ := A3.or
    obtain ⟨bm, hbm⟩ : ∃ bm, bm = if v3 = 0 then 200 else 10000 := ⟨_, rfl⟩
    obtain ⟨v4, τ4, hv4, g4, ⟨A4, e4⟩, -⟩ := A3.go (d := d + 19) X0 (m := bm) (by rw [hbm]; split <;> decide) (by rw [hbm]; split <;> decide)
    refine ⟨τ4, sp, v4, ⟨hsp, by rw [hbm] at hv4; split at hv4 <;> omega⟩, fun Q => (st Q).trans ?_, A4, by rw [e4, e3, e2]⟩
    by_cases hv0 : v3 = 0
    · rw [if_pos hv0] at hbm
      subst hbm hv0
      have g4' : Ra (d + 19) 131 [.ref r, .int 200] τ3 (.inl (some (.int (yI v4)))) τ4 := g4
      have z : yI 0 = 0 := rfl
      simp only [s_207_72, s_207_73, s_207_74, s_207_75, s_207_76, s_207_77, s_207_78, s_207_79, s_207_80, s_207_81, or3, or4, g3' _, g4' _, z, ne_eq, not_true_eq_false, if_false, hcl_s, true_and, Gk_v, Gk_n, xcat_nil, xcat_i, xcat_r, xcat_l, xcat_d, Nat.zero_le, Nat.reduceAdd, Nat.reduceLeDiff, true_and, and_true, ykl_i, ykl_r, ykl_n, ykl_l]
    · rw [if_neg hv0] at hbm
      subst hbm
      have g4' : Ra (d + 19) 131 [.ref r, .int 10000] τ3 (.inl (some (.int (yI v4)))) τ4 := g4
      have z : ¬ yI v3 = 0 := fun e => hv0 ((yI_inj (m := 0) (by omega) (by decide)).mp e)
      simp only [s_207_72, s_207_73, s_207_74, s_207_75, s_207_76, s_207_77, s_207_78, s_207_79, s_207_80, s_207_81, or3, or4, g3' _, g4' _, z, ne_eq, not_false_eq_true, if_true, hcl_s, true_and, Gk_v, Gk_n, xcat_nil, xcat_i, xcat_r, xcat_l, xcat_d, Nat.zero_le, Nat.reduceAdd, Nat.reduceLeDiff, true_and, and_true, ykl_i, ykl_r, ykl_n, ykl_l]
  by_cases hv0 : v1 = 0
  · have z : yI v1 = 0 := by rw [hv0]; rfl
    by_cases hN1 : N ≤ 1
    · have zN : yI N ≤ 1 := (yI_le (m := 1) (by omega) (by decide)).mpr hN1
      refine ⟨τ1, 0, by omega, fun Q => ?_, A1, e1⟩
      simp only [s_207_55, s_207_56, s_207_57, s_207_58, s_207_59, s_207_60, s_207_61, s_207_70, s_207_71, or1, g1' _, z, zN, ne_eq, not_true_eq_false, if_true, if_false, hcl_s, true_and, Gk_v, Gk_n, xcat_nil, xcat_i, xcat_r, xcat_l, xcat_d, Nat.zero_le, Nat.reduceAdd, Nat.reduceLeDiff, true_and, and_true, ykl_i, ykl_r, ykl_n, ykl_l]
      exact Iff.rfl
    · have zN : ¬ yI N ≤ 1 := fun g => by
        have := (yI_le (m := 1) (by omega) (by decide)).mp g
        omega
      obtain ⟨v2, τ2, hv2, g2, ⟨A2, e2⟩, -⟩ := A1.go (d := d + 19) X0 (m := N - 1) (by omega) (by omega)
      have a1 : yI N - 1 = yI (N - 1) := yI_sub1 (by omega)
      have a2 : (1 : Int32) + yI v2 = yI (1 + v2) := yI_add (n := 1)
      refine ⟨τ2, 1 + v2, by omega, fun Q => ?_, A2, e2.trans e1⟩
      simp only [s_207_55, s_207_56, s_207_57, s_207_58, s_207_59, s_207_60, s_207_61, s_207_62, s_207_63, s_207_64, s_207_65, s_207_66, s_207_67, s_207_68, s_207_69, s_207_71, or1, or2, g1' _, g2 _, z, zN, a1, a2, ne_eq, not_true_eq_false, if_true, if_false, hcl_s, true_and, Gk_v, Gk_n, xcat_nil, xcat_i, xcat_r, xcat_l, xcat_d, Nat.zero_le, Nat.reduceAdd, Nat.reduceLeDiff, true_and, and_true, ykl_i, ykl_r, ykl_n, ykl_l]
  · have z : ¬ yI v1 = 0 := fun e => hv0 ((yI_inj (m := 0) (by omega) (by decide)).mp e)
    refine ⟨τ1, 0, by omega, fun Q => ?_, A1, e1⟩
    simp only [s_207_55, s_207_56, s_207_57, s_207_58, s_207_70, s_207_71, or1, g1' _, z, ne_eq, not_false_eq_true, if_true, hcl_s, true_and, Gk_v, Gk_n, xcat_nil, xcat_i, xcat_r, xcat_l, xcat_d, Nat.zero_le, Nat.reduceAdd, Nat.reduceLeDiff, true_and, and_true, ykl_i, ykl_r, ykl_n, ykl_l]
    exact Iff.rfl
end

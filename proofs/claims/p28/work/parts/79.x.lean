/-! ===== strips copied ===== -/
def pI0 : yD := (1, (1, (1, (255, (0, (0, (0, ((fun _ => 0), ((fun _ => 0), ((fun _ => 0), ((fun _ => 0), ((fun _ => 0), ((fun _ => -1), ((fun _ => 0), ((fun _ => 0), ((fun _ => 9999), (0, fun _ => 0)))))))))))))))))
theorem pI0_ok : pD0 pI0 := ⟨⟨⟨rfl, rfl⟩, ⟨rfl, rfl⟩, rfl, rfl⟩, ⟨⟨rfl, rfl⟩, ⟨rfl, rfl⟩, rfl⟩, ⟨rfl, rfl, rfl⟩, rfl, rfl⟩
section
variable {d : Nat} {σ τ : xS} {D : yD} {s s' l r L F1 n i : Nat} {R : pR} {cv : Value} {dn en : Int32} {M : Nat → Nat} {o : xE} {c x : Nat}
theorem hcn_0 {n : Nat} {f : Nat → Int32} {F : xE → Nat → Prop} : hcn 0 (some (.inl (0, (n, .inl f)))) F ↔ n ≤ 100000 ∧ F (.inl (0, (n, .inl f))) n := by
  unfold hcn
  simp
theorem hck_0 {n : Nat} {f : Nat → Int32} : hck 0 (some (.inl (0, (n, .inl f)))) ↔ True := by
  unfold hck
  simp
/-- what was made so far: the object at s', a row of lamps at L -/
def pYa (σ : xS) (s' L n i c x : Nat) (o : xE) (R : pR) (D : yD) (M : Nat → Nat) (τ : xS) : Prop :=
  (pF pno c x σ τ ∧ pZ τ) ∧ (((s' < τ.2.1.1 ∧ σ.2.1.1 ≤ s') ∧ τ.1 s' = some o) ∧ (((σ.2.1.1 ≤ L ∧ L < τ.2.1.1) ∧ ∃ g, τ.1 L = some (prow 6 n g) ∧ ∀ q, q < i → g q = some (M q)) ∧ ((∀ q, q < i → (L < M q ∧ M q < τ.2.1.1) ∧ τ.1 (M q) = some (plamp (D.kd q) (D.pd q) (yb (D.bp q)) (D.fr q) (D.og q) (R.tk q) (R.du q) (R.fm q))) ∧ ∀ p q, p < q → q < i → M p < M q)))
theorem l_133a {σ0 : xS} (S0 : pS σ0 s R D cv dn en) (hD : yDok D) (h9 : D.n ≤ 9) (Z0 : pZ σ0) (hr : σ0.2.1.1 + 60 < 900000) (hs' : s' < 1000000) (hL : L < 1000000) {f : Value} {u v : Int32} : ∀ m i c x τ M, i + m = D.n → c + 4 * m ≤ 50 → pYa σ0 s' L D.n i c x (pN12 (.ref L) f u v) R D M τ → ∃ υ M', Gg (d + 2) 133 12 [some (.ref s), some (.ref s'), some (.int (yI i))] [] τ 28 [some (.ref s), some (.ref s'), some (.int (yI D.n))] [] υ ∧ pYa σ0 s' L D.n D.n (c + 4 * m) (x + 17 * m) (pN12 (.ref L) f u v) R D M' υ := by
  intro m
  induction m with
  | zero =>
    intro i c x τ M hi hc A
    have ei : i = D.n := by omega
    subst ei
    have o0 := (S0.no Z0 A.1.1).ob
    obtain ⟨g0, u0, -⟩ := (S0.no Z0 A.1.1).lrow
    refine ⟨τ, M, fun Q => ?_, A⟩
    rw [s_133_12]
    simp only [s_133_13, s_133_14, s_133_15, s_133_16, o0, u0, hln_r S0.lr0 (show 4 ≤ 6 ∧ 6 ≤ 8 by decide), Int32.le_refl, if_true, hgf_s, hsel_0, hsel_1, hsel_2, hsel_3, hsel_4, hsel_5, hsel_6, hsel_7, hsel_8, hset_0, hset_1, hset_2, hset_3, hset_4, hset_5, hset_6, hset_7, hset_8, hpf_s, hcl_s, hai_s, hpi_0, hpi_1, hln_0, hln_1, List.length_cons, List.length_nil, xwr_1, xwr_2, xnew_1, xnew_n, xnew_s, xnew_z, Nat.reduceLT, ite_true, and_self, hp_8_0, hp_8_1, hn_8_1, hp_8_2, hn_8_2, hp_9_0, hp_9_1, hp_9_2, hp_9_3, hp_9_4, hp_9_5, hn_9_5, hp_9_6, hn_9_6, hp_9_7, hn_9_7, hp_10_0, hp_10_1, hp_10_2, hn_10_2, hp_10_3, hn_10_3, hp_11_0, hp_12_0, hn_12_0, hp_12_1, hp_12_2, hp_12_3, hp_12_4, hp_12_5, hn_12_5, hp_12_6, hn_12_6, hp_12_7, hp_12_8, hp_13_0, hn_13_0, hp_13_1, hp_13_2, hp_13_3, hp_14_0, hn_14_0, hp_14_1, hp_14_2, hp_14_3, xdef_8, xdef_9, xdef_10, xdef_11, xdef_12, xdef_13, xdef_14, Gk_v, Gk_n, xcat_nil, xcat_i, xcat_r, xcat_l, xcat_d, Nat.zero_le, Nat.reduceAdd, Nat.reduceLeDiff, true_and, and_true, ykl_i, ykl_r, ykl_n, ykl_l]
  | succ m ih =>
    intro i c x τ M hi hc A
    have hin : i < D.n := by omega
    obtain ⟨⟨F, Z⟩, ⟨⟨hs1, hs2⟩, hso⟩, ⟨⟨hL1, hL2⟩, g, hg1, hg2⟩, hM, hMm⟩ := A
    have S := S0.no Z0 F
    have hn40 := hD.n40
    have nx := F.2.2.1.2
    have z1 : ¬ yI D.n ≤ yI i := fun h => absurd ((yI_le (by omega) (by omega)).mp h) (by omega)
    have z4 : yI i + 1 = yI (i + 1) := yI_add
    have c3 : yix (yI i) D.n := yix_I (by omega) (by omega)
    have c4 : (yI i).toNatClampNeg = i := yI_clamp (by omega)
    have o0 := S.ob
    obtain ⟨g0, u0, v0⟩ := S.lrow
    have lo1 := S.lm0 hin
    have lr1 := S.lm1 hin
    have lc1 := (S.2.2.1 i hin).2
    obtain ⟨τ1, k1, F1, Z1, a1, x1⟩ := m_124 (d := d) lo1 lc1 (S.tk hin).1.1 (S.du hin).1.1 (S.fm hin).1.1 Z (by omega)
    have hso1 := pF_keep Z F1 hso id
    have hg11 := pF_keep Z F1 hg1 id
    have hLs : L ≠ s' := fun q => by rw [q, hso] at hg1; simp [prow] at hg1
    have hl1 : τ.2.1.1 ≠ L := by omega
    have F2 : pF pno (c + 4) (x + 17) σ0 τ1 := pF_rd F F1
    have A2 : pYa σ0 s' L D.n (i + 1) (c + 4) (x + 17) (pN12 (.ref L) f u v) R D (pup M i τ.2.1.1) (xwr τ1 L (prow 6 D.n (va_up g i (some τ.2.1.1)))) := by
      refine ⟨⟨pF_hi F2 Z1 hg11 hL1, pZ_wr Z1 hg11⟩, ⟨⟨by show s' < τ1.2.1.1; omega, hs2⟩, by rw [xwr_1, if_neg (fun q => hLs q.symm), hso1]⟩, ⟨⟨hL1, by show L < τ1.2.1.1; omega⟩, va_up g i (some τ.2.1.1), by rw [xwr_1, if_pos rfl], fun q hq => ?_⟩, fun q hq => ?_, fun p q hp hq => ?_⟩
      · show (if q = i then some τ.2.1.1 else g q) = some (pup M i τ.2.1.1 q)
        by_cases hqi : q = i
        · subst hqi
          rw [if_pos rfl, pup_same]
        · rw [if_neg hqi, pup_ne hqi]
          exact hg2 q (by omega)
      · by_cases hqi : q = i
        · subst hqi
          rw [pup_same]
          exact ⟨⟨by omega, by show τ.2.1.1 < τ1.2.1.1; omega⟩, by rw [xwr_1, if_neg hl1, a1]⟩
        · rw [pup_ne hqi]
          obtain ⟨⟨m1, m2⟩, m3⟩ := hM q (by omega)
          exact ⟨⟨m1, by show M q < τ1.2.1.1; omega⟩, by rw [xwr_1, if_neg (by omega)]; exact pF_keep Z F1 m3 id⟩
      · by_cases hqi : q = i
        · subst hqi
          rw [pup_same, pup_ne (by omega)]
          exact (hM p (by omega)).1.2
        · rw [pup_ne hqi, pup_ne (by omega)]
          exact hMm p q hp (by omega)
    obtain ⟨σ2, e2⟩ : ∃ σ2, σ2 = xwr τ1 L (prow 6 D.n (va_up g i (some τ.2.1.1))) := ⟨_, rfl⟩
    rw [← e2] at A2
    obtain ⟨υ, M', i1, i2⟩ := ih (i + 1) (c + 4) (x + 17) σ2 _ (by omega) (by omega) A2
    refine ⟨υ, M', fun Q => ?_, by rw [show c + 4 * (m + 1) = c + 4 + 4 * m by omega, show x + 17 * (m + 1) = x + 17 + 17 * m by omega]; exact i2⟩
    refine Iff.trans ?_ (i1 Q)
    have w1 : xRd τ s' = _ := (yrd_lt hs').trans hso
    have hl9 : τ.2.1.1 < 1000000 := by omega
    rw [s_133_12]
    simp only [s_133_13, s_133_14, s_133_15, s_133_16, s_133_17, s_133_18, s_133_19, s_133_20, s_133_21, s_133_22, s_133_23, s_133_24, s_133_25, s_133_26, s_133_27, z1, z4, c3, c4, o0, u0, v0 i hin, w1, lo1, lr1, k1 _, hg11, a1, hL, hl9, hln_r S0.lr0 (show 4 ≤ 6 ∧ 6 ≤ 8 by decide), haa_t S0.lr0 (show 4 ≤ 6 ∧ 6 ≤ 8 by decide), hop_s, plamp, hpa_o (show (6 : Nat) = 4 ∨ 6 = 6 ∨ 6 = 7 ∨ 6 = 8 by decide) (show 9 = xofA 6 from rfl), if_false, hgf_s, hsel_0, hsel_1, hsel_2, hsel_3, hsel_4, hsel_5, hsel_6, hsel_7, hsel_8, hset_0, hset_1, hset_2, hset_3, hset_4, hset_5, hset_6, hset_7, hset_8, hpf_s, hcl_s, hai_s, hpi_0, hpi_1, hln_0, hln_1, List.length_cons, List.length_nil, xwr_1, xwr_2, xnew_1, xnew_n, xnew_s, xnew_z, Nat.reduceLT, ite_true, and_self, hp_8_0, hp_8_1, hn_8_1, hp_8_2, hn_8_2, hp_9_0, hp_9_1, hp_9_2, hp_9_3, hp_9_4, hp_9_5, hn_9_5, hp_9_6, hn_9_6, hp_9_7, hn_9_7, hp_10_0, hp_10_1, hp_10_2, hn_10_2, hp_10_3, hn_10_3, hp_11_0, hp_12_0, hn_12_0, hp_12_1, hp_12_2, hp_12_3, hp_12_4, hp_12_5, hn_12_5, hp_12_6, hn_12_6, hp_12_7, hp_12_8, hp_13_0, hn_13_0, hp_13_1, hp_13_2, hp_13_3, hp_14_0, hn_14_0, hp_14_1, hp_14_2, hp_14_3, xdef_8, xdef_9, xdef_10, xdef_11, xdef_12, xdef_13, xdef_14, Gk_v, Gk_n, xcat_nil, xcat_i, xcat_r, xcat_l, xcat_d, Nat.zero_le, Nat.reduceAdd, Nat.reduceLeDiff, true_and, and_true, ykl_i, ykl_r, ykl_n, ykl_l]
    rw [← e2]
/-- what was made so far: a row of feeds at L2 -/
def pYb (κ τ0 : xS) (s' L n i c x : Nat) (o : xE) (D : yD) (M : Nat → Nat) (τ : xS) : Prop :=
  ((pF pno c x τ0 τ ∧ pZ τ) ∧ ∀ b e, κ.1 b = some e → b ≠ L → τ.1 b = some e) ∧ (((s' < τ.2.1.1) ∧ τ.1 s' = some o) ∧ (((τ0.2.1.1 ≤ L ∧ L < τ.2.1.1) ∧ ∃ g, τ.1 L = some (prow 5 n g) ∧ ∀ q, q < i → g q = some (M q)) ∧ ((∀ q, q < i → (L < M q ∧ M q < τ.2.1.1) ∧ ∃ k : Nat → Int32, τ.1 (M q) = some (pints 2 k) ∧ (k 0 = yI (D.fp q) ∧ k 1 = D.fl q)) ∧ ∀ p q, p < q → q < i → M p < M q)))
theorem l_133b {κ σ0 : xS} (S0 : pS σ0 s R D cv dn en) (hD : yDok D) (Z0 : pZ σ0) (hr : σ0.2.1.1 + 80 < 900000) (hs' : s' < 1000000) (hL : L < 1000000) {a : Value} {u v w y : Int32} : ∀ m i c x τ M, i + m = D.f → c + m ≤ 70 → pYb κ σ0 s' L D.f i c x (.inr (12, [a, .int u, .int v, .int w, .int y, .ref L, .null, .int 0, .int 0])) D M τ → ∃ υ M', Gg (d + 2) 133 52 [some (.ref s), some (.ref s'), some (.int (yI i))] [] τ 69 [some (.ref s), some (.ref s'), some (.int (yI D.f))] [] υ ∧ pYb κ σ0 s' L D.f D.f (c + m) (x + 2 * m) (.inr (12, [a, .int u, .int v, .int w, .int y, .ref L, .null, .int 0, .int 0])) D M' υ := by
  intro m
  induction m with
  | zero =>
    intro i c x τ M hi hc A
    have ei : i = D.f := by omega
    subst ei
    have o0 := (S0.no Z0 A.1.1.1).ob
    obtain ⟨g0, u0, -⟩ := (S0.no Z0 A.1.1.1).frow
    refine ⟨τ, M, fun Q => ?_, A⟩
    rw [s_133_52]
    simp only [s_133_53, s_133_54, s_133_55, s_133_56, o0, u0, hln_r S0.fr0 (show 4 ≤ 5 ∧ 5 ≤ 8 by decide), Int32.le_refl, if_true, hgf_s, hsel_0, hsel_1, hsel_2, hsel_3, hsel_4, hsel_5, hsel_6, hsel_7, hsel_8, hset_0, hset_1, hset_2, hset_3, hset_4, hset_5, hset_6, hset_7, hset_8, hpf_s, hcl_s, hai_s, hpi_0, hpi_1, hln_0, hln_1, List.length_cons, List.length_nil, xwr_1, xwr_2, xnew_1, xnew_n, xnew_s, xnew_z, Nat.reduceLT, ite_true, and_self, hp_8_0, hp_8_1, hn_8_1, hp_8_2, hn_8_2, hp_9_0, hp_9_1, hp_9_2, hp_9_3, hp_9_4, hp_9_5, hn_9_5, hp_9_6, hn_9_6, hp_9_7, hn_9_7, hp_10_0, hp_10_1, hp_10_2, hn_10_2, hp_10_3, hn_10_3, hp_11_0, hp_12_0, hn_12_0, hp_12_1, hp_12_2, hp_12_3, hp_12_4, hp_12_5, hn_12_5, hp_12_6, hn_12_6, hp_12_7, hp_12_8, hp_13_0, hn_13_0, hp_13_1, hp_13_2, hp_13_3, hp_14_0, hn_14_0, hp_14_1, hp_14_2, hp_14_3, xdef_8, xdef_9, xdef_10, xdef_11, xdef_12, xdef_13, xdef_14, Gk_v, Gk_n, xcat_nil, xcat_i, xcat_r, xcat_l, xcat_d, Nat.zero_le, Nat.reduceAdd, Nat.reduceLeDiff, true_and, and_true, ykl_i, ykl_r, ykl_n, ykl_l]
  | succ m ih =>
    intro i c x τ M hi hc A
    have hin : i < D.f := by omega
    obtain ⟨⟨⟨F, Z⟩, kk⟩, ⟨hs1, hso⟩, ⟨⟨hL1, hL2⟩, g, hg1, hg2⟩, hM, hMm⟩ := A
    have S := S0.no Z0 F
    have hf6 := hD.f6
    have nx := F.2.2.1.2
    have z1 : ¬ yI D.f ≤ yI i := fun h => absurd ((yI_le (by omega) (by omega)).mp h) (by omega)
    have z4 : yI i + 1 = yI (i + 1) := yI_add
    have c3 : yix (yI i) D.f := yix_I (by omega) (by omega)
    have c4 : (yI i).toNatClampNeg = i := yI_clamp (by omega)
    have o0 := S.ob
    obtain ⟨g0, u0, v0⟩ := S.frow
    obtain ⟨f0, cf, f1, f2, f3⟩ := S.fg hin
    have f1' : τ.1 (R.fg i) = some (.inl (0, (2, .inl cf))) := (yrd_lt f0).symm.trans f1
    have Z1 := pZ_new (e := .inl (0, (2, .inl cf))) (m := 2) Z
    have F1 : pF pno (c + 1) (x + 2) σ0 (xnew τ (.inl (0, (2, .inl cf))) 2) := pF_al F
    have a1 : (xnew τ (.inl (0, (2, .inl cf))) 2).1 τ.2.1.1 = some (.inl (0, (2, .inl cf))) := pnew_at
    have k1 : ∀ {b e}, τ.1 b = some e → (xnew τ (.inl (0, (2, .inl cf))) 2).1 b = some e := fun {b e} hb => by
      have := pZ_lt Z hb
      rw [xnew_1, if_neg (by omega), hb]
    have x1 : (xnew τ (.inl (0, (2, .inl cf))) 2).2.1.1 = τ.2.1.1 + 1 := rfl
    have hso1 := k1 hso
    have hg11 := k1 hg1
    have kM : ∀ q, q < i → (∃ k : Nat → Int32, (xnew τ (.inl (0, (2, .inl cf))) 2).1 (M q) = some (pints 2 k) ∧ (k 0 = yI (D.fp q) ∧ k 1 = D.fl q)) := fun q hq => by
      obtain ⟨-, k, h1, h2⟩ := hM q hq
      exact ⟨k, k1 h1, h2⟩
    have kk1 : ∀ b e, κ.1 b = some e → b ≠ L → (xnew τ (.inl (0, (2, .inl cf))) 2).1 b = some e := fun b e h1 h2 => k1 (kk b e h1 h2)
    obtain ⟨σ1, e1⟩ : ∃ σ1, σ1 = xnew τ (.inl (0, (2, .inl cf))) 2 := ⟨_, rfl⟩
    rw [← e1] at Z1 F1 a1 hso1 hg11 x1 kM kk1
    have hLs : L ≠ s' := fun q => by rw [q, hso] at hg1; simp [prow] at hg1
    have A2 : pYb κ σ0 s' L D.f (i + 1) (c + 1) (x + 2) (.inr (12, [a, .int u, .int v, .int w, .int y, .ref L, .null, .int 0, .int 0])) D (pup M i τ.2.1.1) (xwr σ1 L (prow 5 D.f (va_up g i (some τ.2.1.1)))) := by
      refine ⟨⟨⟨pF_hi F1 Z1 hg11 hL1, pZ_wr Z1 hg11⟩, fun b e h1 h2 => by rw [xwr_1, if_neg h2]; exact kk1 b e h1 h2⟩, ⟨by show s' < σ1.2.1.1; omega, by rw [xwr_1, if_neg (fun q => hLs q.symm), hso1]⟩, ⟨⟨hL1, by show L < σ1.2.1.1; omega⟩, va_up g i (some τ.2.1.1), by rw [xwr_1, if_pos rfl], fun q hq => ?_⟩, fun q hq => ?_, fun p q hp hq => ?_⟩
      · show (if q = i then some τ.2.1.1 else g q) = some (pup M i τ.2.1.1 q)
        by_cases hqi : q = i
        · subst hqi
          rw [if_pos rfl, pup_same]
        · rw [if_neg hqi, pup_ne hqi]
          exact hg2 q (by omega)
      · by_cases hqi : q = i
        · subst hqi
          rw [pup_same]
          exact ⟨⟨by omega, by show τ.2.1.1 < σ1.2.1.1; omega⟩, cf, by rw [xwr_1, if_neg (by omega), a1], f2, f3⟩
        · rw [pup_ne hqi]
          obtain ⟨⟨m1, m2⟩, -⟩ := hM q (by omega)
          obtain ⟨k, h1, h2⟩ := kM q (by omega)
          exact ⟨⟨m1, by show M q < σ1.2.1.1; omega⟩, k, by rw [xwr_1, if_neg (by omega)]; exact h1, h2⟩
      · by_cases hqi : q = i
        · subst hqi
          rw [pup_same, pup_ne (by omega)]
          exact (hM p (by omega)).1.2
        · rw [pup_ne hqi, pup_ne (by omega)]
          exact hMm p q hp (by omega)
    obtain ⟨σ2, e2⟩ : ∃ σ2, σ2 = xwr σ1 L (prow 5 D.f (va_up g i (some τ.2.1.1))) := ⟨_, rfl⟩
    rw [← e2] at A2
    obtain ⟨υ, M', i1, i2⟩ := ih (i + 1) (c + 1) (x + 2) σ2 _ (by omega) (by omega) A2
    refine ⟨υ, M', fun Q => ?_, by rw [show c + (m + 1) = c + 1 + m by omega, show x + 2 * (m + 1) = x + 2 + 2 * m by omega]; exact i2⟩
    refine Iff.trans ?_ (i1 Q)
    have w1 : xRd τ s' = _ := (yrd_lt hs').trans hso
    have hl9 : τ.2.1.1 < 1000000 := by omega
    have hl8 : τ.2.1.1 < 900000 := by omega
    have n2 : (2 : Nat) ≤ 100000 := by decide
    rw [s_133_52]
    simp only [s_133_53, s_133_54, s_133_55, s_133_56, s_133_57, s_133_58, s_133_59, s_133_60, s_133_61, s_133_62, s_133_63, s_133_64, z1, c3, c4, o0, u0, v0 i hin, w1, f0, f1', hcn_0, n2, hl8, hln_r S0.fr0 (show 4 ≤ 5 ∧ 5 ≤ 8 by decide), haa_t S0.fr0 (show 4 ≤ 5 ∧ 5 ≤ 8 by decide), hop_s, if_false, hgf_s, hsel_0, hsel_1, hsel_2, hsel_3, hsel_4, hsel_5, hsel_6, hsel_7, hsel_8, hset_0, hset_1, hset_2, hset_3, hset_4, hset_5, hset_6, hset_7, hset_8, hpf_s, hcl_s, hai_s, hpi_0, hpi_1, hln_0, hln_1, List.length_cons, List.length_nil, xwr_1, xwr_2, xnew_1, xnew_n, xnew_s, xnew_z, Nat.reduceLT, ite_true, and_self, hp_8_0, hp_8_1, hn_8_1, hp_8_2, hn_8_2, hp_9_0, hp_9_1, hp_9_2, hp_9_3, hp_9_4, hp_9_5, hn_9_5, hp_9_6, hn_9_6, hp_9_7, hn_9_7, hp_10_0, hp_10_1, hp_10_2, hn_10_2, hp_10_3, hn_10_3, hp_11_0, hp_12_0, hn_12_0, hp_12_1, hp_12_2, hp_12_3, hp_12_4, hp_12_5, hn_12_5, hp_12_6, hn_12_6, hp_12_7, hp_12_8, hp_13_0, hn_13_0, hp_13_1, hp_13_2, hp_13_3, hp_14_0, hn_14_0, hp_14_1, hp_14_2, hp_14_3, xdef_8, xdef_9, xdef_10, xdef_11, xdef_12, xdef_13, xdef_14, Gk_v, Gk_n, xcat_nil, xcat_i, xcat_r, xcat_l, xcat_d, Nat.zero_le, Nat.reduceAdd, Nat.reduceLeDiff, true_and, and_true, ykl_i, ykl_r, ykl_n, ykl_l]
    rw [← e1]
    simp only [s_133_65, s_133_66, s_133_67, s_133_68, hl9, hL, a1, hg11, hck_0, hpa_i, c3, c4, z4, hgf_s, hsel_0, hsel_1, hsel_2, hsel_3, hsel_4, hsel_5, hsel_6, hsel_7, hsel_8, hset_0, hset_1, hset_2, hset_3, hset_4, hset_5, hset_6, hset_7, hset_8, hpf_s, hcl_s, hai_s, hpi_0, hpi_1, hln_0, hln_1, List.length_cons, List.length_nil, xwr_1, xwr_2, xnew_1, xnew_n, xnew_s, xnew_z, Nat.reduceLT, ite_true, and_self, hp_8_0, hp_8_1, hn_8_1, hp_8_2, hn_8_2, hp_9_0, hp_9_1, hp_9_2, hp_9_3, hp_9_4, hp_9_5, hn_9_5, hp_9_6, hn_9_6, hp_9_7, hn_9_7, hp_10_0, hp_10_1, hp_10_2, hn_10_2, hp_10_3, hn_10_3, hp_11_0, hp_12_0, hn_12_0, hp_12_1, hp_12_2, hp_12_3, hp_12_4, hp_12_5, hn_12_5, hp_12_6, hn_12_6, hp_12_7, hp_12_8, hp_13_0, hn_13_0, hp_13_1, hp_13_2, hp_13_3, hp_14_0, hn_14_0, hp_14_1, hp_14_2, hp_14_3, xdef_8, xdef_9, xdef_10, xdef_11, xdef_12, xdef_13, xdef_14, Gk_v, Gk_n, xcat_nil, xcat_i, xcat_r, xcat_l, xcat_d, Nat.zero_le, Nat.reduceAdd, Nat.reduceLeDiff, true_and, and_true, ykl_i, ykl_r, ykl_n, ykl_l]
    rw [← e2]
end

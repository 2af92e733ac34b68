/-! ===== the law's own strips: rows of commands are done ===== -/
section
variable {d lo hi s p h r n M : Nat} {cv : Value} {σ0 : xS} {T : yTb}
/-- one command that is no repeat -/
theorem l_147s {a i nr k : Nat} {ins : Value} {c : Nat → Int32} {σ : xS} {R : pR} {X : yXs} {l6 l7 : Option Value} (P : pQ lo hi s cv σ0 M σ R X) (hX : X.1 = 0) (Z0 : pZ σ0) (hh : hi ≤ h) (hh0 : hi ≤ σ0.2.1.1) (K : pK σ0 T h a i nr ins c) (h5 : T.1 i < 5) (hN : ∀ j, j < ynb (T.1 i) → T.2.1 i j < 10000) (hM' : M + 201 < 1000000) (hr : σ0.2.1.1 + 4100 < 900000) : ∃ τ R' z, pQ lo hi s cv σ0 M τ R' (yxc T i X) ∧ (((yxc T i X).1 = 0 → Gg (d + 8) 147 14 [some (.ref s), some (.ref r), some (.ref r), some (.int (yI n)), some (.int (yI k)), some (.ref a), l6, l7] [] σ 210 [some (.ref s), some (.ref r), some (.ref r), some (.int (yI n)), some (.int (yI k)), some (.ref a), some (.ref nr), z] [] τ) ∧ (¬ (yxc T i X).1 = 0 → Ga (d + 8) 147 14 [some (.ref s), some (.ref r), some (.ref r), some (.int (yI n)), some (.int (yI k)), some (.ref a), l6, l7] [] σ (.inl (some (.int 0))) τ)) := by
  obtain ⟨e, D, dd⟩ := X
  have e0 : e = 0 := hX
  subst e0
  obtain ⟨B', ⟨hD', h9', hM0, V0⟩, hd', -⟩ := P
  have B : pU lo hi s cv (yI dd) 0 σ0 (20 * dd) (72 * dd) σ R D := B'
  have hD : yDok D := hD'
  have h9 : D.n ≤ 9 := h9'
  have hM : pfr D (M + dd) := hM0
  have V : pcv σ0 cv D := V0
  have hd : dd ≤ 200 := hd'
  have K1 := B.cm Z0 hh K
  obtain ⟨z, hz, g1⟩ := l_147c (d := d + 8) (s := s) (r := r) (n := n) (k := k) (l6 := l6) (l7 := l7) K1.1.2 K1.2.1 K1.2.2.1.2 K1.2.2.2.1 h5
  obtain ⟨σ1, g2, B1⟩ := l_147e (d := d + 8) (r := r) (n := n) (k := k) (z := z) B hD Z0 hh K h5 hN hz hd
  have ex : yxc T i (0, (D, dd)) = (ystop T D dd i, if ystop T D dd i = 0 then (ydo T D i, dd + 1) else (D, dd)) := rfl
  by_cases hs : ystop T D dd i = 0
  · have hd1 : ¬ dd = 200 := fun q => by
      unfold ystop at hs
      rw [if_pos q] at hs
      cases hs
    have hf : yfault T D i = 0 := by
      unfold ystop at hs
      rw [if_neg hd1] at hs
      exact hs
    rw [hs] at B1
    obtain ⟨τ, R', g3, B3, b1, b2, b3, b4⟩ := l_147d (d := d) (r := r) (n := n) (k := k) (l7 := some (.int (yb z))) B1 hD h9 Z0 V hh hh0 K h5 hN hd hM (by omega) hr hf
    rw [ex, hs, if_pos rfl]
    exact ⟨τ, R', some (.int (yb z)), ⟨B3, ⟨b1, b2, b3, b4⟩, by show dd + 1 ≤ 200; omega, Nat.zero_le _⟩, fun _ Q => ((g1 Q).trans (g2 Q)).trans (g3 Q), fun q => absurd rfl q⟩
  · have h3 : ystop T D dd i ≤ 3 := ystop_le
    rw [ex, if_neg hs]
    refine ⟨σ1, R, none, ⟨B1, ⟨hD, h9, hM, V⟩, hd, h3⟩, fun q => absurd q hs, fun _ Q => ((g1 Q).trans (g2 Q)).trans ?_⟩
    have o1 := B1.1.ob
    have z1 : ¬ yI (ystop T D dd i) ≤ 0 := fun q => by
      have := (yI_le (m := 0) (by omega) (by decide)).mp q
      omega
    simp only [s_147_131, s_147_132, s_147_133, s_147_134, s_147_135, o1, z1, if_false, ybo_0, hgf_s, hsel_0, hsel_1, hsel_2, hsel_3, hsel_4, hsel_5, hsel_6, hsel_7, hsel_8, hset_0, hset_1, hset_2, hset_3, hset_4, hset_5, hset_6, hset_7, hset_8, hpf_s, hcl_s, hai_s, hpi_0, hpi_1, hln_0, hln_1, List.length_cons, List.length_nil, xwr_1, xwr_2, xnew_1, xnew_n, xnew_s, xnew_z, Nat.reduceLT, ite_true, and_self, hp_8_0, hp_8_1, hn_8_1, hp_8_2, hn_8_2, hp_9_0, hp_9_1, hp_9_2, hp_9_3, hp_9_4, hp_9_5, hn_9_5, hp_9_6, hn_9_6, hp_9_7, hn_9_7, hp_10_0, hp_10_1, hp_10_2, hn_10_2, hp_10_3, hn_10_3, hp_11_0, hp_12_0, hn_12_0, hp_12_1, hp_12_2, hp_12_3, hp_12_4, hp_12_5, hn_12_5, hp_12_6, hn_12_6, hp_12_7, hp_12_8, hp_13_0, hn_13_0, hp_13_1, hp_13_2, hp_13_3, hp_14_0, hn_14_0, hp_14_1, hp_14_2, hp_14_3, xdef_8, xdef_9, xdef_10, xdef_11, xdef_12, xdef_13, xdef_14, Gk_v, Gk_n, xcat_nil, xcat_i, xcat_r, xcat_l, xcat_d, Nat.zero_le, Nat.reduceAdd, Nat.reduceLeDiff, true_and, and_true, ykl_i, ykl_r, ykl_n, ykl_l]
/-- a repeat's rounds -/
theorem l_147r {a nr k N r' b e : Nat} {W : Nat → Nat → Nat → Prop} {F : Nat → Nat → yXs → yXs} {c : Nat → Int32} {i : Nat} {l7 : Option Value} (IH : ∀ σ R X x b e, W x b e → pQ lo hi s cv σ0 M σ R X → X.1 = 0 → ∃ τ R', Ra (d + 7) 147 [.ref s, .ref x] σ (.inl (some (.int (yb (decide ((F b e X).1 = 0)))))) τ ∧ pQ lo hi s cv σ0 M τ R' (F b e X)) (Z0 : pZ σ0) (hh : hi ≤ h) (K : pK σ0 T h a i nr (.ref r') c) (hN : c 0 = yI N) (hN' : N < 10000) (hW : W r' b e) : ∀ m j σ R X, pQ lo hi s cv σ0 M σ R X → X.1 = 0 → j + m = N → ∃ τ R', pQ lo hi s cv σ0 M τ R' (yxrep (F b e) m X) ∧ (((yxrep (F b e) m X).1 = 0 → Gg (d + 8) 147 20 [some (.ref s), some (.ref r), some (.ref r), some (.int (yI n)), some (.int (yI k)), some (.ref a), some (.int (yI j)), l7] [] σ 210 [some (.ref s), some (.ref r), some (.ref r), some (.int (yI n)), some (.int (yI k)), some (.ref a), some (.int (yI N)), l7] [] τ) ∧ (¬ (yxrep (F b e) m X).1 = 0 → Ga (d + 8) 147 20 [some (.ref s), some (.ref r), some (.ref r), some (.int (yI n)), some (.int (yI k)), some (.ref a), some (.int (yI j)), l7] [] σ (.inl (some (.int 0))) τ)) := by
  intro m
  induction m with
  | zero =>
    intro j σ R X P hX hj
    have ej : j = N := by omega
    subst ej
    obtain ⟨⟨-, k1⟩, k2, ⟨-, k3⟩, k4, -⟩ := P.1.cm Z0 hh K
    have r1 := (yrd_lt k1).trans k2
    have r2 : xRd σ nr = some (.inl (0, (5, .inl c))) := by rw [yrd_lt k3, k4]
    refine ⟨σ, R, P, fun _ Q => ?_, fun q => absurd hX q⟩
    rw [s_147_20]
    simp only [s_147_21, s_147_22, s_147_23, s_147_24, s_147_25, s_147_35, r1, r2, hN, yix5_0, ycl_0, Int32.le_refl, if_true, hgf_s, hsel_0, hsel_1, hsel_2, hsel_3, hsel_4, hsel_5, hsel_6, hsel_7, hsel_8, hset_0, hset_1, hset_2, hset_3, hset_4, hset_5, hset_6, hset_7, hset_8, hpf_s, hcl_s, hai_s, hpi_0, hpi_1, hln_0, hln_1, List.length_cons, List.length_nil, xwr_1, xwr_2, xnew_1, xnew_n, xnew_s, xnew_z, Nat.reduceLT, ite_true, and_self, hp_8_0, hp_8_1, hn_8_1, hp_8_2, hn_8_2, hp_9_0, hp_9_1, hp_9_2, hp_9_3, hp_9_4, hp_9_5, hn_9_5, hp_9_6, hn_9_6, hp_9_7, hn_9_7, hp_10_0, hp_10_1, hp_10_2, hn_10_2, hp_10_3, hn_10_3, hp_11_0, hp_12_0, hn_12_0, hp_12_1, hp_12_2, hp_12_3, hp_12_4, hp_12_5, hn_12_5, hp_12_6, hn_12_6, hp_12_7, hp_12_8, hp_13_0, hn_13_0, hp_13_1, hp_13_2, hp_13_3, hp_14_0, hn_14_0, hp_14_1, hp_14_2, hp_14_3, xdef_8, xdef_9, xdef_10, xdef_11, xdef_12, xdef_13, xdef_14, Gk_v, Gk_n, xcat_nil, xcat_i, xcat_r, xcat_l, xcat_d, Nat.zero_le, Nat.reduceAdd, Nat.reduceLeDiff, true_and, and_true, ykl_i, ykl_r, ykl_n, ykl_l]
  | succ m ih =>
    intro j σ R X P hX hj
    obtain ⟨⟨-, k1⟩, k2, ⟨-, k3⟩, k4, -⟩ := P.1.cm Z0 hh K
    have r1 := (yrd_lt k1).trans k2
    have r2 : xRd σ nr = some (.inl (0, (5, .inl c))) := by rw [yrd_lt k3, k4]
    have o1 := P.1.1.ob
    have z1 : ¬ yI N ≤ yI j := fun h => absurd ((yI_le (by omega) (by omega)).mp h) (by omega)
    have z4 : yI j + 1 = yI (j + 1) := yI_add
    obtain ⟨τ1, R1, g1, P1⟩ := IH σ R X r' b e hW P hX
    rw [yxrep]
    by_cases hx : (F b e X).1 = 0
    · rw [if_pos hx]
      rw [decide_eq_true hx] at g1
      obtain ⟨τ, R', i1, i2, i3⟩ := ih (j + 1) τ1 R1 _ P1 hx (by omega)
      have st : ∀ Q, G (d + 8) 147 20 [some (.ref s), some (.ref r), some (.ref r), some (.int (yI n)), some (.int (yI k)), some (.ref a), some (.int (yI j)), l7] [] σ Q ↔ G (d + 8) 147 20 [some (.ref s), some (.ref r), some (.ref r), some (.int (yI n)), some (.int (yI k)), some (.ref a), some (.int (yI (j + 1))), l7] [] τ1 Q := by
        intro Q
        rw [s_147_20]
        simp only [s_147_21, s_147_22, s_147_23, s_147_24, s_147_25, s_147_26, s_147_27, s_147_28, s_147_29, s_147_30, s_147_33, s_147_34, r1, r2, o1, hN, z1, z4, g1 _, show yb true = 1 from rfl, show yb false = 0 from rfl, show ¬ (1 : Int32) = 0 from by decide, ne_eq, not_false_eq_true, yix5_0, ycl_0, if_true, if_false, hgf_s, hsel_0, hsel_1, hsel_2, hsel_3, hsel_4, hsel_5, hsel_6, hsel_7, hsel_8, hset_0, hset_1, hset_2, hset_3, hset_4, hset_5, hset_6, hset_7, hset_8, hpf_s, hcl_s, hai_s, hpi_0, hpi_1, hln_0, hln_1, List.length_cons, List.length_nil, xwr_1, xwr_2, xnew_1, xnew_n, xnew_s, xnew_z, Nat.reduceLT, ite_true, and_self, hp_8_0, hp_8_1, hn_8_1, hp_8_2, hn_8_2, hp_9_0, hp_9_1, hp_9_2, hp_9_3, hp_9_4, hp_9_5, hn_9_5, hp_9_6, hn_9_6, hp_9_7, hn_9_7, hp_10_0, hp_10_1, hp_10_2, hn_10_2, hp_10_3, hn_10_3, hp_11_0, hp_12_0, hn_12_0, hp_12_1, hp_12_2, hp_12_3, hp_12_4, hp_12_5, hn_12_5, hp_12_6, hn_12_6, hp_12_7, hp_12_8, hp_13_0, hn_13_0, hp_13_1, hp_13_2, hp_13_3, hp_14_0, hn_14_0, hp_14_1, hp_14_2, hp_14_3, xdef_8, xdef_9, xdef_10, xdef_11, xdef_12, xdef_13, xdef_14, Gk_v, Gk_n, xcat_nil, xcat_i, xcat_r, xcat_l, xcat_d, Nat.zero_le, Nat.reduceAdd, Nat.reduceLeDiff, true_and, and_true, ykl_i, ykl_r, ykl_n, ykl_l]
      exact ⟨τ, R', i1, fun q Q => (st Q).trans (i2 q Q), fun q Q => (st Q).trans (i3 q Q)⟩
    · rw [if_neg hx]
      rw [decide_eq_false hx] at g1
      refine ⟨τ1, R1, P1, fun q => absurd q hx, fun _ Q => ?_⟩
      rw [s_147_20]
      simp only [s_147_21, s_147_22, s_147_23, s_147_24, s_147_25, s_147_26, s_147_27, s_147_28, s_147_29, s_147_30, s_147_31, s_147_32, r1, r2, o1, hN, z1, g1 _, show yb false = 0 from rfl, ybo_0, ne_eq, not_true_eq_false, yix5_0, ycl_0, if_true, if_false, hgf_s, hsel_0, hsel_1, hsel_2, hsel_3, hsel_4, hsel_5, hsel_6, hsel_7, hsel_8, hset_0, hset_1, hset_2, hset_3, hset_4, hset_5, hset_6, hset_7, hset_8, hpf_s, hcl_s, hai_s, hpi_0, hpi_1, hln_0, hln_1, List.length_cons, List.length_nil, xwr_1, xwr_2, xnew_1, xnew_n, xnew_s, xnew_z, Nat.reduceLT, ite_true, and_self, hp_8_0, hp_8_1, hn_8_1, hp_8_2, hn_8_2, hp_9_0, hp_9_1, hp_9_2, hp_9_3, hp_9_4, hp_9_5, hn_9_5, hp_9_6, hn_9_6, hp_9_7, hn_9_7, hp_10_0, hp_10_1, hp_10_2, hn_10_2, hp_10_3, hn_10_3, hp_11_0, hp_12_0, hn_12_0, hp_12_1, hp_12_2, hp_12_3, hp_12_4, hp_12_5, hn_12_5, hp_12_6, hn_12_6, hp_12_7, hp_12_8, hp_13_0, hn_13_0, hp_13_1, hp_13_2, hp_13_3, hp_14_0, hn_14_0, hp_14_1, hp_14_2, hp_14_3, xdef_8, xdef_9, xdef_10, xdef_11, xdef_12, xdef_13, xdef_14, Gk_v, Gk_n, xcat_nil, xcat_i, xcat_r, xcat_l, xcat_d, Nat.zero_le, Nat.reduceAdd, Nat.reduceLeDiff, true_and, and_true, ykl_i, ykl_r, ykl_n, ykl_l]
/-- a row of commands -/
theorem l_147 {W : Nat → Nat → Nat → Prop} {F : Nat → Nat → yXs → yXs} {g : Nat → Option Nat} {e : Nat} (IH : ∀ σ R X x b e, W x b e → pQ lo hi s cv σ0 M σ R X → X.1 = 0 → ∃ τ R', Ra (d + 7) 147 [.ref s, .ref x] σ (.inl (some (.int (yb (decide ((F b e X).1 = 0)))))) τ ∧ pQ lo hi s cv σ0 M τ R' (F b e X)) (Z0 : pZ σ0) (hh : hi ≤ h) (hh0 : hi ≤ σ0.2.1.1) (hM' : M + 201 < 1000000) (hr : σ0.2.1.1 + 4100 < 900000) (hrr : h ≤ r ∧ r < 1000000) (hrow : σ0.1 r = some (prow 8 n g)) (hn : n ≤ 10) : ∀ m k b σ R X f l5 l6 l7, pCr W σ0 T h g m k b e → k + m = n → e - b ≤ f → pQ lo hi s cv σ0 M σ R X → X.1 = 0 → ∃ τ R', Ga (d + 8) 147 7 [some (.ref s), some (.ref r), some (.ref r), some (.int (yI n)), some (.int (yI k)), l5, l6, l7] [] σ (.inl (some (.int (yb (decide ((yxS F T f b e X).1 = 0)))))) τ ∧ pQ lo hi s cv σ0 M τ R' (yxS F T f b e X) := by
  intro m
  induction m with
  | zero =>
    intro k b σ R X f l5 l6 l7 hC hk hf P hX
    have ek : k = n := by omega
    have eb : b = e := hC
    subst ek eb
    rw [yxS_id (Nat.le_refl _), decide_eq_true hX]
    refine ⟨σ, R, fun Q => ?_, P⟩
    rw [s_147_7]
    simp only [s_147_8, s_147_9, s_147_212, s_147_213, Int32.le_refl, if_true, show yb true = 1 from rfl, ybo_1, hgf_s, hsel_0, hsel_1, hsel_2, hsel_3, hsel_4, hsel_5, hsel_6, hsel_7, hsel_8, hset_0, hset_1, hset_2, hset_3, hset_4, hset_5, hset_6, hset_7, hset_8, hpf_s, hcl_s, hai_s, hpi_0, hpi_1, hln_0, hln_1, List.length_cons, List.length_nil, xwr_1, xwr_2, xnew_1, xnew_n, xnew_s, xnew_z, Nat.reduceLT, ite_true, and_self, hp_8_0, hp_8_1, hn_8_1, hp_8_2, hn_8_2, hp_9_0, hp_9_1, hp_9_2, hp_9_3, hp_9_4, hp_9_5, hn_9_5, hp_9_6, hn_9_6, hp_9_7, hn_9_7, hp_10_0, hp_10_1, hp_10_2, hn_10_2, hp_10_3, hn_10_3, hp_11_0, hp_12_0, hn_12_0, hp_12_1, hp_12_2, hp_12_3, hp_12_4, hp_12_5, hn_12_5, hp_12_6, hn_12_6, hp_12_7, hp_12_8, hp_13_0, hn_13_0, hp_13_1, hp_13_2, hp_13_3, hp_14_0, hn_14_0, hp_14_1, hp_14_2, hp_14_3, xdef_8, xdef_9, xdef_10, xdef_11, xdef_12, xdef_13, xdef_14, Gk_v, Gk_n, xcat_nil, xcat_i, xcat_r, xcat_l, xcat_d, Nat.zero_le, Nat.reduceAdd, Nat.reduceLeDiff, true_and, and_true, ykl_i, ykl_r, ykl_n, ykl_l]
  | succ m ih =>
    intro k b σ R X f l5 l6 l7 hC hk hf P hX
    have hle := (pCr_le _ _ _ _ hC).2 (by omega)
    obtain ⟨⟨a, nr, ins, c, hg, K, hcase⟩, hC'⟩ := hC
    obtain ⟨f, rfl⟩ : ∃ f', f = f' + 1 := ⟨f - 1, by omega⟩
    have z1 : ¬ yI n ≤ yI k := fun h => absurd ((yI_le (by omega) (by omega)).mp h) (by omega)
    have z4 : yI k + 1 = yI (k + 1) := yI_add
    have c3 : yix (yI k) n := yix_I (by omega) (by omega)
    have c4 : (yI k).toNatClampNeg = k := yI_clamp (by omega)
    have hrow1 : σ.1 r = some (prow 8 n g) := pF_keep Z0 P.1.2.2.2 hrow (fun q => by have := q.1.2; omega)
    have r0 : xRd σ r = some (prow 8 n g) := by rw [yrd_lt hrr.2, hrow1]
    have ha : a < 1000000 := K.1.2
    have st : ∀ Q, G (d + 8) 147 7 [some (.ref s), some (.ref r), some (.ref r), some (.int (yI n)), some (.int (yI k)), l5, l6, l7] [] σ Q ↔ G (d + 8) 147 14 [some (.ref s), some (.ref r), some (.ref r), some (.int (yI n)), some (.int (yI k)), some (.ref a), l6, l7] [] σ Q := by
      intro Q
      rw [s_147_7]
      simp only [s_147_8, s_147_9, s_147_10, s_147_11, s_147_12, s_147_13 ha, r0, z1, c3, c4, hg, ha, haa_t hrr.2 (show 4 ≤ 8 ∧ 8 ≤ 8 by decide), hop_s, if_false, hgf_s, hsel_0, hsel_1, hsel_2, hsel_3, hsel_4, hsel_5, hsel_6, hsel_7, hsel_8, hset_0, hset_1, hset_2, hset_3, hset_4, hset_5, hset_6, hset_7, hset_8, hpf_s, hcl_s, hai_s, hpi_0, hpi_1, hln_0, hln_1, List.length_cons, List.length_nil, xwr_1, xwr_2, xnew_1, xnew_n, xnew_s, xnew_z, Nat.reduceLT, ite_true, and_self, hp_8_0, hp_8_1, hn_8_1, hp_8_2, hn_8_2, hp_9_0, hp_9_1, hp_9_2, hp_9_3, hp_9_4, hp_9_5, hn_9_5, hp_9_6, hn_9_6, hp_9_7, hn_9_7, hp_10_0, hp_10_1, hp_10_2, hn_10_2, hp_10_3, hn_10_3, hp_11_0, hp_12_0, hn_12_0, hp_12_1, hp_12_2, hp_12_3, hp_12_4, hp_12_5, hn_12_5, hp_12_6, hn_12_6, hp_12_7, hp_12_8, hp_13_0, hn_13_0, hp_13_1, hp_13_2, hp_13_3, hp_14_0, hn_14_0, hp_14_1, hp_14_2, hp_14_3, xdef_8, xdef_9, xdef_10, xdef_11, xdef_12, xdef_13, xdef_14, Gk_v, Gk_n, xcat_nil, xcat_i, xcat_r, xcat_l, xcat_d, Nat.zero_le, Nat.reduceAdd, Nat.reduceLeDiff, true_and, and_true, ykl_i, ykl_r, ykl_n, ykl_l]
    have nxt : ∀ (τ : xS) (x y z : Option Value) Q, G (d + 8) 147 210 [some (.ref s), some (.ref r), some (.ref r), some (.int (yI n)), some (.int (yI k)), x, y, z] [] τ Q ↔ G (d + 8) 147 7 [some (.ref s), some (.ref r), some (.ref r), some (.int (yI n)), some (.int (yI (k + 1))), x, y, z] [] τ Q := by
      intro τ x y z Q
      rw [s_147_210, s_147_211, z4]
      simp only [Gk_v, Gk_n, xcat_nil, xcat_i, xcat_r, xcat_l, xcat_d, Nat.zero_le, Nat.reduceAdd, Nat.reduceLeDiff, true_and, and_true, ykl_i, ykl_r, ykl_n, ykl_l]
    rw [yxS, if_neg (by omega)]
    rcases hcase with ⟨h5, h6, hN⟩ | ⟨h5, hN, -, r', hi', hW⟩
    · rw [if_neg (show ¬ T.1 b = 5 by omega)]
      obtain ⟨τ, R', z, P1, g1, g2⟩ := l_147s (d := d) (r := r) (n := n) (k := k) (l6 := l6) (l7 := l7) P hX Z0 hh hh0 K h5 hN hM' hr
      obtain ⟨Y, hY⟩ : ∃ Y, Y = yxc T b X := ⟨_, rfl⟩
      rw [← hY] at P1 g1 g2 ⊢
      by_cases hy : Y.1 = 0
      · rw [if_pos hy]
        obtain ⟨υ, R2, i1, i2⟩ := ih (k + 1) (T.2.2 b) τ R' Y f (some (.ref a)) (some (.ref nr)) z hC' (by omega) (by omega) P1 hy
        exact ⟨υ, R2, fun Q => (((st Q).trans (g1 hy Q)).trans (nxt τ _ _ _ Q)).trans (i1 Q), i2⟩
      · rw [if_neg hy, decide_eq_false hy]
        exact ⟨τ, R', fun Q => (st Q).trans (g2 hy Q), P1⟩
    · rw [if_pos h5]
      subst hi'
      have hc0 : c 0 = yI (T.2.1 b 0) := K.2.2.2.2 0 (by rw [h5]; decide)
      obtain ⟨-, k2, -, -, -⟩ := P.1.cm Z0 hh K
      have r1 : xRd σ a = some (.inr (8, [.int 5, .ref nr, .ref r'])) := by rw [yrd_lt ha, k2, h5]; rfl
      have st2 : ∀ Q, G (d + 8) 147 14 [some (.ref s), some (.ref r), some (.ref r), some (.int (yI n)), some (.int (yI k)), some (.ref a), l6, l7] [] σ Q ↔ G (d + 8) 147 20 [some (.ref s), some (.ref r), some (.ref r), some (.int (yI n)), some (.int (yI k)), some (.ref a), some (.int (yI 0)), l7] [] σ Q := by
        intro Q
        simp only [s_147_14, s_147_15, s_147_16, s_147_17, s_147_18, s_147_19, r1, ne_eq, not_true_eq_false, if_false, hgf_s, hsel_0, hsel_1, hsel_2, hsel_3, hsel_4, hsel_5, hsel_6, hsel_7, hsel_8, hset_0, hset_1, hset_2, hset_3, hset_4, hset_5, hset_6, hset_7, hset_8, hpf_s, hcl_s, hai_s, hpi_0, hpi_1, hln_0, hln_1, List.length_cons, List.length_nil, xwr_1, xwr_2, xnew_1, xnew_n, xnew_s, xnew_z, Nat.reduceLT, ite_true, and_self, hp_8_0, hp_8_1, hn_8_1, hp_8_2, hn_8_2, hp_9_0, hp_9_1, hp_9_2, hp_9_3, hp_9_4, hp_9_5, hn_9_5, hp_9_6, hn_9_6, hp_9_7, hn_9_7, hp_10_0, hp_10_1, hp_10_2, hn_10_2, hp_10_3, hn_10_3, hp_11_0, hp_12_0, hn_12_0, hp_12_1, hp_12_2, hp_12_3, hp_12_4, hp_12_5, hn_12_5, hp_12_6, hn_12_6, hp_12_7, hp_12_8, hp_13_0, hn_13_0, hp_13_1, hp_13_2, hp_13_3, hp_14_0, hn_14_0, hp_14_1, hp_14_2, hp_14_3, xdef_8, xdef_9, xdef_10, xdef_11, xdef_12, xdef_13, xdef_14, Gk_v, Gk_n, xcat_nil, xcat_i, xcat_r, xcat_l, xcat_d, Nat.zero_le, Nat.reduceAdd, Nat.reduceLeDiff, true_and, and_true, ykl_i, ykl_r, ykl_n, ykl_l]
        exact Iff.rfl
      obtain ⟨τ, R', P1, g1, g2⟩ := l_147r (r := r) (n := n) (k := k) (l7 := l7) IH Z0 hh K hc0 (by omega) hW (T.2.1 b 0) 0 σ R X P hX (Nat.zero_add _)
      obtain ⟨Y, hY⟩ : ∃ Y, Y = yxrep (F (b + 1) (T.2.2 b)) (T.2.1 b 0) X := ⟨_, rfl⟩
      rw [← hY] at P1 g1 g2 ⊢
      by_cases hy : Y.1 = 0
      · rw [if_pos hy]
        obtain ⟨υ, R2, i1, i2⟩ := ih (k + 1) (T.2.2 b) τ R' Y f (some (.ref a)) (some (.int (yI (T.2.1 b 0)))) l7 hC' (by omega) (by omega) P1 hy
        exact ⟨υ, R2, fun Q => ((((st Q).trans (st2 Q)).trans (g1 hy Q)).trans (nxt τ _ _ _ Q)).trans (i1 Q), i2⟩
      · rw [if_neg hy, decide_eq_false hy]
        exact ⟨τ, R', fun Q => ((st Q).trans (st2 Q)).trans (g2 hy Q), P1⟩
theorem m_147a {W : Nat → Nat → Nat → Prop} {F : Nat → Nat → yXs → yXs} {b e : Nat} {σ : xS} {R : pR} {X : yXs} {g : Nat → Option Nat} (IH : ∀ σ R X x b e, W x b e → pQ lo hi s cv σ0 M σ R X → X.1 = 0 → ∃ τ R', Ra (d + 7) 147 [.ref s, .ref x] σ (.inl (some (.int (yb (decide ((F b e X).1 = 0)))))) τ ∧ pQ lo hi s cv σ0 M τ R' (F b e X)) (Z0 : pZ σ0) (hh : hi ≤ h) (hh0 : hi ≤ σ0.2.1.1) (hM' : M + 201 < 1000000) (hr : σ0.2.1.1 + 4100 < 900000) (hrr : h ≤ r ∧ r < 1000000) (hrow : σ0.1 r = some (prow 8 n g)) (hn : n ≤ 10) (hC : pCr W σ0 T h g n 0 b e) (P : pQ lo hi s cv σ0 M σ R X) (hX : X.1 = 0) : ∃ τ R', Ra (d + 8) 147 [.ref s, .ref r] σ (.inl (some (.int (yb (decide ((yxS F T e b e X).1 = 0)))))) τ ∧ pQ lo hi s cv σ0 M τ R' (yxS F T e b e X) := by
  obtain ⟨τ, R', i1, i2⟩ := l_147 (d := d) IH Z0 hh hh0 hM' hr hrr hrow hn n 0 b σ R X e none none none hC (Nat.zero_add _) (by omega) P hX
  have hrow1 : σ.1 r = some (prow 8 n g) := pF_keep Z0 P.1.2.2.2 hrow (fun q => by have := q.1.2; omega)
  have r0 : xRd σ r = some (prow 8 n g) := by rw [yrd_lt hrr.2, hrow1]
  refine ⟨τ, R', fun Q => Iff.trans ?_ (i1 Q), i2⟩
  show G (d + 8) 147 0 [some (.ref s), some (.ref r), none, none, none, none, none, none] [] σ Q ↔ _
  simp only [s_147_0, s_147_1 hrr.2, s_147_2, s_147_3, s_147_4, s_147_5, s_147_6, r0, hln_r hrr.2 (show 4 ≤ 8 ∧ 8 ≤ 8 by decide), hgf_s, hsel_0, hsel_1, hsel_2, hsel_3, hsel_4, hsel_5, hsel_6, hsel_7, hsel_8, hset_0, hset_1, hset_2, hset_3, hset_4, hset_5, hset_6, hset_7, hset_8, hpf_s, hcl_s, hai_s, hpi_0, hpi_1, hln_0, hln_1, List.length_cons, List.length_nil, xwr_1, xwr_2, xnew_1, xnew_n, xnew_s, xnew_z, Nat.reduceLT, ite_true, and_self, hp_8_0, hp_8_1, hn_8_1, hp_8_2, hn_8_2, hp_9_0, hp_9_1, hp_9_2, hp_9_3, hp_9_4, hp_9_5, hn_9_5, hp_9_6, hn_9_6, hp_9_7, hn_9_7, hp_10_0, hp_10_1, hp_10_2, hn_10_2, hp_10_3, hn_10_3, hp_11_0, hp_12_0, hn_12_0, hp_12_1, hp_12_2, hp_12_3, hp_12_4, hp_12_5, hn_12_5, hp_12_6, hn_12_6, hp_12_7, hp_12_8, hp_13_0, hn_13_0, hp_13_1, hp_13_2, hp_13_3, hp_14_0, hn_14_0, hp_14_1, hp_14_2, hp_14_3, xdef_8, xdef_9, xdef_10, xdef_11, xdef_12, xdef_13, xdef_14, Gk_v, Gk_n, xcat_nil, xcat_i, xcat_r, xcat_l, xcat_d, Nat.zero_le, Nat.reduceAdd, Nat.reduceLeDiff, true_and, and_true, ykl_i, ykl_r, ykl_n, ykl_l]
  exact Iff.rfl
/-- does -/
theorem m_147 (Z0 : pZ σ0) (hh : hi ≤ h) (hh0 : hi ≤ σ0.2.1.1) (hM' : M + 201 < 1000000) (hr : σ0.2.1.1 + 4100 < 900000) : ∀ k d r b e σ R X, pCw σ0 T h k r b e → pQ lo hi s cv σ0 M σ R X → X.1 = 0 → ∃ τ R', Ra (d + k + 8) 147 [.ref s, .ref r] σ (.inl (some (.int (yb (decide ((yxK T k b e X).1 = 0)))))) τ ∧ pQ lo hi s cv σ0 M τ R' (yxK T k b e X) := by
  intro k
  induction k with
  | zero =>
    intro d r b e σ R X hC P hX
    obtain ⟨hrr, n, g, hn, hrow, hC'⟩ := hC
    exact m_147a (d := d) (F := fun _ _ X => X) (fun σ R X x b e q => absurd q id) Z0 hh hh0 hM' hr hrr hrow hn hC' P hX
  | succ k ih =>
    intro d r b e σ R X hC P hX
    obtain ⟨hrr, n, g, hn, hrow, hC'⟩ := hC
    exact m_147a (d := d + k + 1) (F := yxK T k) (fun σ R X x b e q P' hX' => ih d x b e σ R X q P' hX') Z0 hh hh0 hM' hr hrr hrow hn hC' P hX
end

/-! ===== scripts by chance: whole ===== -/
section
variable {d : Nat} {b r c x M dp : Nat} {σ0 : xS} {t0 : yT}
variable {D : yD} {k : Nat} {E : Nat → yD} {s0 s1 : Option yD} {n0 : Nat} {B : Nat → Nat} {eo en : Int32}
theorem pva_ne {g : Nat → Option Nat} {i j : Nat} {v : Option Nat} (h : j ≠ i) : va_up g i v j = g j := by
  unfold va_up
  rw [if_neg h]
theorem pva_eq {g : Nat → Option Nat} {i : Nat} {v : Option Nat} : va_up g i v i = v := by
  unfold va_up
  rw [if_pos rfl]
theorem l_208L {σs : xS} {l : List Nat} {A N : Nat} (hdp : dp ≤ 2) (IH : ∀ k, dp = k + 1 → pK8 d b r σ0 t0 M k) (X0 : pX0 b r σ0 t0) (C : yCI t0 D k E s0 s1 n0 B eo en) (hM : 1 ≤ M ∧ M ≤ 9) (hN : N ≤ n8 dp) (hA : A = σs.2.1.1) (hA0 : σ0.2.1.1 ≤ A) (hl : l.length + N * p8 dp ≤ 540) (hr : A + (1 + N * q8 dp) < 889000) : ∀ m i (σ : xS) w cnt j g (l7 l8 l9 : Option Value), i + m = N → pX b r σ0 t0 (c + (1 + i * q8 dp)) (x + (N + i * z8 dp)) σ (l ++ w) → pF (pXp b r) (1 + i * q8 dp) (N + i * z8 dp) σs σ → A + 1 ≤ σ.2.1.1 → σ.1 A = some (prow 8 N g) → (w.length ≤ i * p8 dp ∧ cnt ≤ i * c8 dp) → pBk dp j w cnt (fun T c => pCr (pCW σ T (A + 1) dp) σ T (A + 1) g i 0 c (c + cnt)) → ∃ τ w' cnt' j', Ga (d + dp + 6) 208 12 [some (.ref 0), some (.ref b), some (.ref r), some (.int (yI M)), some (.int (yI dp)), some (.ref A), some (.int (yI i)), l7, l8, l9] [] σ (.inl (some (.ref A))) τ ∧ ((pX b r σ0 t0 (c + (1 + N * q8 dp)) (x + (N + N * z8 dp)) τ (l ++ w') ∧ pF (pXp b r) (1 + N * q8 dp) (N + N * z8 dp) σs τ) ∧ ((w'.length ≤ N * p8 dp ∧ cnt' ≤ N * c8 dp) ∧ pBk dp j' w' cnt' (fun T c => pCw τ T A dp A c (c + cnt')))) := by
  have hlo := X0.lo
  have hn8 : n8 dp ≤ 3 := (by decide : ∀ k, k < 3 → n8 k ≤ 3) dp (by omega)
  have hA9 : A < 1000000 := by omega
  intro m
  induction m with
  | zero =>
    intro i σ w cnt j g l7 l8 l9 hi X F hnx oA hw P
    have ei : i = N := by omega
    subst ei
    refine ⟨σ, w, cnt, j, fun Q => ?_, ⟨X, F⟩, hw, pBk_imp P (fun T c q => ?_) (fun T T' c a q => pCw_mono (Nat.le_refl _) (fun _ _ _ _ q => q) dp _ _ _ a q)⟩
    · have hl : ∀ F, hln A (some (prow 8 i g)) F ↔ F (yI i) := fun F => hln_r hA9 (by decide)
      have rA : xRd σ A = some (prow 8 i g) := by rw [yrd_lt hA9, oA]
      rw [s_208_12]
      simp only [s_208_13, s_208_14, s_208_15, s_208_166, s_208_167, rA, hl, Int32.le_refl, if_true, hgf_s, hsel_0, hsel_1, hsel_2, hsel_3, hsel_4, hsel_5, hsel_6, hsel_7, hsel_8, hset_0, hset_1, hset_2, hset_3, hset_4, hset_5, hset_6, hset_7, hset_8, hpf_s, hcl_s, hai_s, hpi_0, hpi_1, hln_0, hln_1, List.length_cons, List.length_nil, xwr_1, xwr_2, xnew_1, xnew_n, xnew_s, xnew_z, Nat.reduceLT, ite_true, and_self, hp_8_0, hp_8_1, hn_8_1, hp_8_2, hn_8_2, hp_9_0, hp_9_1, hp_9_2, hp_9_3, hp_9_4, hp_9_5, hn_9_5, hp_9_6, hn_9_6, hp_9_7, hn_9_7, hp_10_0, hp_10_1, hp_10_2, hn_10_2, hp_10_3, hn_10_3, hp_11_0, hp_12_0, hn_12_0, hp_12_1, hp_12_2, hp_12_3, hp_12_4, hp_12_5, hn_12_5, hp_12_6, hn_12_6, hp_12_7, hp_12_8, hp_13_0, hn_13_0, hp_13_1, hp_13_2, hp_13_3, hp_14_0, hn_14_0, hp_14_1, hp_14_2, hp_14_3, xdef_8, xdef_9, xdef_10, xdef_11, xdef_12, xdef_13, xdef_14, Gk_v, Gk_n, xcat_nil, xcat_i, xcat_r, xcat_l, xcat_d, Nat.zero_le, Nat.reduceAdd, Nat.reduceLeDiff, true_and, and_true, ykl_i, ykl_r, ykl_n, ykl_l]
    · exact pCw_W.mpr ⟨⟨Nat.le_refl _, hA9⟩, i, g, by omega, oA, pCr_mono (Nat.le_succ A) (fun _ _ _ _ q => q) _ _ _ _ (fun _ _ _ => rfl) (fun _ _ _ => ⟨rfl, rfl, rfl⟩) (fun r a b _ _ q => pCW_mono (Nat.le_succ A) (fun _ _ _ _ q => q) dp _ _ _ (fun _ _ _ => ⟨rfl, rfl, rfl⟩) q) q⟩
  | succ m ih =>
    intro i σ w cnt j g l7 l8 l9 hi X F hnx oA hw P
    have m1 := Nat.succ_mul i (q8 dp)
    have m2 := Nat.succ_mul i (z8 dp)
    have m3 := Nat.succ_mul i (p8 dp)
    have m4 := Nat.succ_mul i (c8 dp)
    have m5 : (i + 1) * p8 dp ≤ N * p8 dp := Nat.mul_le_mul_right _ (by omega)
    have m6 : (i + 1) * q8 dp ≤ N * q8 dp := Nat.mul_le_mul_right _ (by omega)
    have m1' : (i + 1) * q8 dp = i * q8 dp + q8 dp := m1
    have m2' : (i + 1) * z8 dp = i * z8 dp + z8 dp := m2
    have m3' : (i + 1) * p8 dp = i * p8 dp + p8 dp := m3
    have m4' : (i + 1) * c8 dp = i * c8 dp + c8 dp := m4
    have hnu := F.2.2.1
    have z1 : ¬ yI N ≤ yI i := fun h => absurd ((yI_le (by omega) (by omega)).mp h) (by omega)
    have z4 : yI i + 1 = yI (i + 1) := yI_add
    have i1 : yix (yI i) N := yix_I (by omega) (by omega)
    have i2 : (yI i).toNatClampNeg = i := yI_clamp (by omega)
    obtain ⟨a, ha⟩ : ∃ a, a = σ.2.1.1 := ⟨_, rfl⟩
    obtain ⟨τ1, w1, cnt1, m8, m9, st, ⟨X1, F1⟩, ⟨⟨hw1, hw2⟩, hc1⟩, ⟨fs, hfs⟩, P1⟩ := l_208f (D := D) (k := k) (E := E) (s0 := s0) (s1 := s1) (n0 := n0) (B := B) (eo := eo) (en := en) hdp IH X0 C X hM (by rw [List.length_append]; omega) (by omega) (l5 := some (.ref A)) (y6 := yI i) (l7 := l7) (l8 := l8) (l9 := l9)
    rw [← ha] at hfs P1 st
    have hpA : ¬ pXp b r A := pXp_no (by omega) (by omega) (by omega)
    have oA1 := pF_keep (X.Z X0) F1 oA hpA
    have k1 : ∀ a e, A ≤ a → σ.1 a = some e → τ1.1 a = some e := fun a e h1 h2 => pF_keep (X.Z X0) F1 h2 (pXp_no (by omega) (by omega) (by omega))
    have F01 : pF (pXp b r) (1 + (i + 1) * q8 dp) (N + (i + 1) * z8 dp) σs τ1 := (pF.trans F F1 (P' := pXp b r) (fun _ _ q => q.elim id id)).mono (fun _ _ q => q) (by omega) (by omega)
    have X1' := X1.mono (c' := c + (1 + (i + 1) * q8 dp)) (x' := x + (N + (i + 1) * z8 dp)) (by omega) (by omega)
    have X2 := X1'.own X0 hA0 oA1 (e' := prow 8 N (va_up g i (some a)))
    have F2 := pF_hi F01 (X1'.Z X0) oA1 (by omega) (e' := prow 8 N (va_up g i (some a)))
    have oA2 : (xwr τ1 A (prow 8 N (va_up g i (some a)))).1 A = some (prow 8 N (va_up g i (some a))) := pwr_at
    have k2 : ∀ a' e, A + 1 ≤ a' → τ1.1 a' = some e → (xwr τ1 A (prow 8 N (va_up g i (some a)))).1 a' = some e := fun a' e h1 h2 => by rw [xwr_1, if_neg (by omega), h2]
    have n2 : (xwr τ1 A (prow 8 N (va_up g i (some a)))).2.1.1 = τ1.2.1.1 := rfl
    obtain ⟨σ2, e2⟩ : ∃ σ2, σ2 = xwr τ1 A (prow 8 N (va_up g i (some a))) := ⟨_, rfl⟩
    rw [← e2] at X2 F2 oA2 k2 n2
    have nx1 := F1.2.2.1
    rw [List.append_assoc] at X2
    have P2 := pBk_app P P1 hw1
    have P3 : pBk dp (j + 1) (w ++ w1) (cnt + cnt1) (fun T c => pCr (pCW σ2 T (A + 1) dp) σ2 T (A + 1) (va_up g i (some a)) (i + 1) 0 c (c + (cnt + cnt1))) := by
      refine pBk_imp P2 (fun T c ⟨q1, q2⟩ => ?_) (fun T T' c a q => pCr_mono (Nat.le_refl _) (fun _ _ _ _ q => q) _ _ _ _ (fun _ _ _ => rfl) a (fun r a' b' g1 g2 q => pCW_mono (Nat.le_refl _) (fun _ _ _ _ q => q) dp _ _ _ (fun i' g3 g4 => a i' (by omega) (by omega)) q) q)
      have q3 : pCr (pCW σ2 T (A + 1) dp) σ2 T (A + 1) (va_up g i (some a)) i 0 c (c + cnt) := pCr_mono (Nat.le_refl _) (fun a' e h1 _ h2 => k2 a' e h1 (k1 a' e (by omega) h2)) _ _ _ _ (fun j' _ h2 => pva_ne (by omega)) (fun _ _ _ => ⟨rfl, rfl, rfl⟩) (fun r a' b' _ _ q => pCW_mono (Nat.le_refl _) (fun a' e h1 _ h2 => k2 a' e h1 (k1 a' e (by omega) h2)) dp _ _ _ (fun _ _ _ => ⟨rfl, rfl, rfl⟩) q) q1
      obtain ⟨q4, nr, ins, cf, q5, q6⟩ := pCo_mono (h' := A + 1) (τ := σ2) (T' := T) (show A + 1 ≤ a by omega) (fun a' e h1 _ h2 => k2 a' e (by omega) h2) (fun _ _ _ => ⟨rfl, rfl, rfl⟩) q2
      have q7 := pCr_snoc i 0 c (c + cnt) q3 (by rw [Nat.zero_add]; exact pva_eq) q5 q6
      rw [q4, Nat.add_assoc c] at q7
      exact q7
    obtain ⟨τ, w', cnt', j', st', h1, h2, h3⟩ := ih (i + 1) σ2 (w ++ w1) (cnt + cnt1) (j + 1) (va_up g i (some a)) (some (.ref a)) m8 m9 (by omega) X2 F2 (by omega) oA2 ⟨by rw [List.length_append]; omega, by omega⟩ P3
    refine ⟨τ, w', cnt', j', fun Q => ?_, h1, h2, h3⟩
    refine Iff.trans ?_ (st' Q)
    have hl : ∀ F, hln A (some (prow 8 N g)) F ↔ F (yI N) := fun F => hln_r hA9 (by decide)
    have rA : xRd σ A = some (prow 8 N g) := by rw [yrd_lt hA9, oA]
    have ra9 : a < 1000000 := by omega
    rw [s_208_12]
    simp only [s_208_13, s_208_14, s_208_15, rA, hl, z1, if_false, hgf_s, hsel_0, hsel_1, hsel_2, hsel_3, hsel_4, hsel_5, hsel_6, hsel_7, hsel_8, hset_0, hset_1, hset_2, hset_3, hset_4, hset_5, hset_6, hset_7, hset_8, hpf_s, hcl_s, hai_s, hpi_0, hpi_1, hln_0, hln_1, List.length_cons, List.length_nil, xwr_1, xwr_2, xnew_1, xnew_n, xnew_s, xnew_z, Nat.reduceLT, ite_true, and_self, hp_8_0, hp_8_1, hn_8_1, hp_8_2, hn_8_2, hp_9_0, hp_9_1, hp_9_2, hp_9_3, hp_9_4, hp_9_5, hn_9_5, hp_9_6, hn_9_6, hp_9_7, hn_9_7, hp_10_0, hp_10_1, hp_10_2, hn_10_2, hp_10_3, hn_10_3, hp_11_0, hp_12_0, hn_12_0, hp_12_1, hp_12_2, hp_12_3, hp_12_4, hp_12_5, hn_12_5, hp_12_6, hn_12_6, hp_12_7, hp_12_8, hp_13_0, hn_13_0, hp_13_1, hp_13_2, hp_13_3, hp_14_0, hn_14_0, hp_14_1, hp_14_2, hp_14_3, xdef_8, xdef_9, xdef_10, xdef_11, xdef_12, xdef_13, xdef_14, Gk_v, Gk_n, xcat_nil, xcat_i, xcat_r, xcat_l, xcat_d, Nat.zero_le, Nat.reduceAdd, Nat.reduceLeDiff, true_and, and_true, ykl_i, ykl_r, ykl_n, ykl_l]
    rw [st]
    simp only [s_208_160, s_208_161, s_208_162, s_208_163, s_208_164, s_208_165, oA1, hfs, hA9, ra9, i1, i2, z4, hpa_o (show (8 : Nat) = 4 ∨ 8 = 6 ∨ 8 = 7 ∨ 8 = 8 by decide) (show 8 = xofA 8 from rfl), hgf_s, hsel_0, hsel_1, hsel_2, hsel_3, hsel_4, hsel_5, hsel_6, hsel_7, hsel_8, hset_0, hset_1, hset_2, hset_3, hset_4, hset_5, hset_6, hset_7, hset_8, hpf_s, hcl_s, hai_s, hpi_0, hpi_1, hln_0, hln_1, List.length_cons, List.length_nil, xwr_1, xwr_2, xnew_1, xnew_n, xnew_s, xnew_z, Nat.reduceLT, ite_true, and_self, hp_8_0, hp_8_1, hn_8_1, hp_8_2, hn_8_2, hp_9_0, hp_9_1, hp_9_2, hp_9_3, hp_9_4, hp_9_5, hn_9_5, hp_9_6, hn_9_6, hp_9_7, hn_9_7, hp_10_0, hp_10_1, hp_10_2, hn_10_2, hp_10_3, hn_10_3, hp_11_0, hp_12_0, hn_12_0, hp_12_1, hp_12_2, hp_12_3, hp_12_4, hp_12_5, hn_12_5, hp_12_6, hn_12_6, hp_12_7, hp_12_8, hp_13_0, hn_13_0, hp_13_1, hp_13_2, hp_13_3, hp_14_0, hn_14_0, hp_14_1, hp_14_2, hp_14_3, xdef_8, xdef_9, xdef_10, xdef_11, xdef_12, xdef_13, xdef_14, Gk_v, Gk_n, xcat_nil, xcat_i, xcat_r, xcat_l, xcat_d, Nat.zero_le, Nat.reduceAdd, Nat.reduceLeDiff, true_and, and_true, ykl_i, ykl_r, ykl_n, ykl_l]
    rw [← e2]
theorem l_208k {dp : Nat} (hdp : dp ≤ 2) (IH : ∀ k, dp = k + 1 → pK8 d b r σ0 t0 M k) (X0 : pX0 b r σ0 t0) (C : yCI t0 D k E s0 s1 n0 B eo en) (hM : 1 ≤ M ∧ M ≤ 9) : pK8 d b r σ0 t0 M dp := by
  intro c x σ l X hl hr
  have hlo := X0.lo
  have hnx := X.nx
  have hn8 : 1 ≤ n8 dp ∧ n8 dp ≤ 3 := (by decide : ∀ k, k < 3 → 1 ≤ n8 k ∧ n8 k ≤ 3) dp (by omega)
  obtain ⟨v, σ1, hv, g1, ⟨X1, F1⟩, q1, e1⟩ := X.go (d := d + dp + 5) X0 (m := n8 dp + 1) (by omega) (by omega)
  have hvn : v ≤ n8 dp := by omega
  have n1 : σ1.2.1.1 = σ.2.1.1 := by rw [e1]
  have X2 := X1.new X0 (e := prow 8 v (fun _ => none)) (m := v)
  have F2 := pF_al (e := prow 8 v (fun _ => none)) (m := v) ((F1.mono (fun _ _ q => Or.inr (Or.inr (Or.inr q))) (Nat.le_refl _) (Nat.le_refl _) : pF (pXp b r) 0 0 σ σ1))
  have o2 : (xnew σ1 (prow 8 v (fun _ => none)) v).1 σ.2.1.1 = some (prow 8 v (fun _ => none)) := by rw [← n1]; exact pnew_at
  have n2 : (xnew σ1 (prow 8 v (fun _ => none)) v).2.1.1 = σ.2.1.1 + 1 := by show σ1.2.1.1 + 1 = _; omega
  obtain ⟨σ2, e2⟩ : ∃ σ2, σ2 = xnew σ1 (prow 8 v (fun _ => none)) v := ⟨_, rfl⟩
  rw [← e2] at X2 F2 o2 n2
  have p1 : v * p8 dp ≤ n8 dp * p8 dp := Nat.mul_le_mul_right _ hvn
  have p2 : v * q8 dp ≤ n8 dp * q8 dp := Nat.mul_le_mul_right _ hvn
  have p3 : v * z8 dp ≤ n8 dp * z8 dp := Nat.mul_le_mul_right _ hvn
  have p4 : v * c8 dp ≤ n8 dp * c8 dp := Nat.mul_le_mul_right _ hvn
  obtain ⟨τ, w, cnt, j, st, ⟨X3, F3⟩, ⟨h1, h2⟩, P⟩ := l_208L (c := c) (x := x) (A := σ.2.1.1) (N := v) (σs := σ) (l := l) hdp IH X0 C hM hvn rfl hnx.1 (by omega) (by omega) v 0 σ2 [] 0 0 (fun _ => none) none none none (Nat.zero_add _) (by
    rw [Nat.zero_mul, Nat.zero_mul, List.append_nil]
    exact X2) (by
    rw [Nat.zero_mul, Nat.zero_mul, Nat.add_zero, Nat.add_zero]
    exact F2.mono (fun _ _ q => q) (by omega) (by omega)) (by omega) o2 ⟨Nat.zero_le _, Nat.zero_le _⟩ (pBk_imp pBk_nil (fun T c _ => rfl) (fun T T' c _ q => q))
  refine ⟨τ, w, cnt, j, fun Q => ?_, ⟨X3.mono (by omega) (by omega), F3.mono (fun _ _ q => q) (by omega) (by omega)⟩, ⟨by omega, by omega⟩, P⟩
  refine Iff.trans ?_ (st Q)
  show G (d + dp + 6) 208 0 [some (.ref 0), some (.ref b), some (.ref r), some (.int (yI M)), some (.int (yI dp)), none, none, none, none, none] [] σ Q ↔ _
  have z0 : yI 0 = 0 := rfl
  have cv : (yI v).toNatClampNeg = v := yI_clamp (by omega)
  have nv : ¬ yI v < 0 := fun h => by
    have := (yI_lt (m := 0) (by omega) (by decide)).mp h
    omega
  have v5 : v ≤ 100000 := by omega
  have r9 : σ1.2.1.1 < 900000 := by omega
  have r9' : σ.2.1.1 < 1000000 := by omega
  obtain ⟨fo, orr⟩ := X.or
  by_cases h2 : dp = 2
  · subst h2
    have z2 : yI 2 = 2 := rfl
    have g1' : Ra (d + 2 + 5) 131 [.ref r, .int 4] σ (.inl (some (.int (yI v)))) σ1 := g1
    simp only [s_208_0, s_208_1, s_208_2, s_208_3, s_208_4, s_208_5, s_208_6, s_208_7, s_208_8, orr, g1' _, z2, cv, nv, v5, r9, ne_eq, not_true_eq_false, not_false_eq_true, if_false, true_and, hcl_s, hgf_s, hsel_0, hsel_1, hsel_2, hsel_3, hsel_4, hsel_5, hsel_6, hsel_7, hsel_8, hset_0, hset_1, hset_2, hset_3, hset_4, hset_5, hset_6, hset_7, hset_8, hpf_s, hcl_s, hai_s, hpi_0, hpi_1, hln_0, hln_1, List.length_cons, List.length_nil, xwr_1, xwr_2, xnew_1, xnew_n, xnew_s, xnew_z, Nat.reduceLT, ite_true, and_self, hp_8_0, hp_8_1, hn_8_1, hp_8_2, hn_8_2, hp_9_0, hp_9_1, hp_9_2, hp_9_3, hp_9_4, hp_9_5, hn_9_5, hp_9_6, hn_9_6, hp_9_7, hn_9_7, hp_10_0, hp_10_1, hp_10_2, hn_10_2, hp_10_3, hn_10_3, hp_11_0, hp_12_0, hn_12_0, hp_12_1, hp_12_2, hp_12_3, hp_12_4, hp_12_5, hn_12_5, hp_12_6, hn_12_6, hp_12_7, hp_12_8, hp_13_0, hn_13_0, hp_13_1, hp_13_2, hp_13_3, hp_14_0, hn_14_0, hp_14_1, hp_14_2, hp_14_3, xdef_8, xdef_9, xdef_10, xdef_11, xdef_12, xdef_13, xdef_14, Gk_v, Gk_n, xcat_nil, xcat_i, xcat_r, xcat_l, xcat_d, Nat.zero_le, Nat.reduceAdd, Nat.reduceLeDiff, true_and, and_true, ykl_i, ykl_r, ykl_n, ykl_l]
    rw [← e2, n1, s_208_9 r9']
    simp only [s_208_10, s_208_11, z0, Gk_v, Gk_n, xcat_nil, xcat_i, xcat_r, xcat_l, xcat_d, Nat.zero_le, Nat.reduceAdd, Nat.reduceLeDiff, true_and, and_true, ykl_i, ykl_r, ykl_n, ykl_l]
  · have z2 : ¬ yI dp = 2 := fun e => h2 ((yI_inj (m := 2) (by omega) (by decide)).mp e)
    have n82 : n8 dp = 2 := (by decide : ∀ k, k < 2 → n8 k = 2) dp (by omega)
    rw [n82] at g1
    have g1' : Ra (d + dp + 5) 131 [.ref r, .int 3] σ (.inl (some (.int (yI v)))) σ1 := g1
    simp only [s_208_0, s_208_1, s_208_2, s_208_3, s_208_4, s_208_5, s_208_6, s_208_7, s_208_8, orr, g1' _, z2, cv, nv, v5, r9, ne_eq, not_false_eq_true, if_true, true_and, hcl_s, hgf_s, hsel_0, hsel_1, hsel_2, hsel_3, hsel_4, hsel_5, hsel_6, hsel_7, hsel_8, hset_0, hset_1, hset_2, hset_3, hset_4, hset_5, hset_6, hset_7, hset_8, hpf_s, hcl_s, hai_s, hpi_0, hpi_1, hln_0, hln_1, List.length_cons, List.length_nil, xwr_1, xwr_2, xnew_1, xnew_n, xnew_s, xnew_z, Nat.reduceLT, ite_true, and_self, hp_8_0, hp_8_1, hn_8_1, hp_8_2, hn_8_2, hp_9_0, hp_9_1, hp_9_2, hp_9_3, hp_9_4, hp_9_5, hn_9_5, hp_9_6, hn_9_6, hp_9_7, hn_9_7, hp_10_0, hp_10_1, hp_10_2, hn_10_2, hp_10_3, hn_10_3, hp_11_0, hp_12_0, hn_12_0, hp_12_1, hp_12_2, hp_12_3, hp_12_4, hp_12_5, hn_12_5, hp_12_6, hn_12_6, hp_12_7, hp_12_8, hp_13_0, hn_13_0, hp_13_1, hp_13_2, hp_13_3, hp_14_0, hn_14_0, hp_14_1, hp_14_2, hp_14_3, xdef_8, xdef_9, xdef_10, xdef_11, xdef_12, xdef_13, xdef_14, Gk_v, Gk_n, xcat_nil, xcat_i, xcat_r, xcat_l, xcat_d, Nat.zero_le, Nat.reduceAdd, Nat.reduceLeDiff, true_and, and_true, ykl_i, ykl_r, ykl_n, ykl_l]
    rw [← e2, n1, s_208_9 r9']
    simp only [s_208_10, s_208_11, z0, Gk_v, Gk_n, xcat_nil, xcat_i, xcat_r, xcat_l, xcat_d, Nat.zero_le, Nat.reduceAdd, Nat.reduceLeDiff, true_and, and_true, ykl_i, ykl_r, ykl_n, ykl_l]
theorem m_208 (X0 : pX0 b r σ0 t0) (C : yCI t0 D k E s0 s1 n0 B eo en) (hM : 1 ≤ M ∧ M ≤ 9) : pK8 d b r σ0 t0 M 2 :=
  l_208k (Nat.le_refl _) (fun k1 h1 => by
    have e1 : k1 = 1 := by omega
    subst e1
    exact l_208k (by decide) (fun k2 h2 => by
      have e2 : k2 = 0 := by omega
      subst e2
      exact l_208k (by decide) (fun k3 h3 => by omega) X0 C hM) X0 C hM) X0 C hM
end

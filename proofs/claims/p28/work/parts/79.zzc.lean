/-! ===== a script's text is run ===== -/
section
variable {d : Nat} {D : yD} {b r c x : Nat} {σ σ0 τ : xS} {t0 t : yT} {l w : List Nat}
variable {k : Nat} {E : Nat → yD} {s0 s1 : Option yD} {n n0 : Nat} {B B' : Nat → Nat} {eo en : Int32}
theorem pCw_up {T : yTb} {h : Nat} : ∀ k r lo hi, pCw σ T h k r lo hi → pCw σ T h (k + 1) r lo hi := by
  intro k
  induction k with
  | zero =>
    intro r lo hi ⟨q1, n, g, q2, q3, q4⟩
    exact ⟨q1, n, g, q2, q3, pCr_mono (Nat.le_refl _) (fun _ _ _ _ q => q) _ _ _ _ (fun _ _ _ => rfl) (fun _ _ _ => ⟨rfl, rfl, rfl⟩) (fun _ _ _ _ _ q => q.elim) q4⟩
  | succ k ih =>
    intro r lo hi ⟨q1, n, g, q2, q3, q4⟩
    exact ⟨q1, n, g, q2, q3, pCr_mono (Nat.le_refl _) (fun _ _ _ _ q => q) _ _ _ _ (fun _ _ _ => rfl) (fun _ _ _ => ⟨rfl, rfl, rfl⟩) (fun r a b _ _ q => ih r a b q) q4⟩
theorem m_202 (X0 : pX0 b r σ0 t0) (C : yCI t0 D k E s0 s1 n0 B eo en) (X : pX b r σ0 t0 c x σ l) (hl : l.length ≤ 570) {q c' : Nat} {T : yTb} (h : yrun l.length (pbt l) = .inr (q, (c', T))) : ∃ τ, Ra (d + 24) 202 [.ref 0, .ref b] σ (.inl (some (.int (yI (yxK T 3 0 c' (0, (D, 0))).2.2)))) τ ∧ ((pI τ (yxK T 3 0 c' (0, (D, 0))).2.1 (min 8 (k + 1)) (ypush D E) s0 s1 0 (pbt l) (-1) (yI (yxK T 3 0 c' (0, (D, 0))).1) ∧ pbz b τ) ∧ pF (pcb b) 0 0 σ τ) := by
  have hz := X.Z X0
  have hb := X0.2.1.1
  have h128 := X.2.2.2.2
  obtain ⟨f, h1, h2, -⟩ := X.2.1
  obtain ⟨τ1, f1, u, n1, ⟨t1, t2⟩, ⟨q1, q2⟩, ⟨e2, C2, Z2⟩, ⟨n2, n3⟩, F2, z2⟩ := l_txt (d := d + 21) X0 C X hl
  have hb2 : (xwr τ1 b (pints 8 (upd f1 0 0))).1 b = some (pints 8 (upd f1 0 0)) := pwr_at
  obtain ⟨τ2, hτ2⟩ : ∃ τ2, τ2 = xwr τ1 b (pints 8 (upd f1 0 0)) := ⟨_, rfl⟩
  rw [← hτ2] at e2 F2 hb2
  subst e2
  obtain ⟨v, k3, C3, Ff⟩ := q_96x (d := d) C2 (fun i hi => Nat.lt_trans (h128 i) (by decide)) n2 Z2 h
  obtain ⟨I3, F3⟩ := pI_y C3 Ff Z2
  have F23 : pF (pcb b) 0 0 σ (yemb v) := pF.trans F2 F3 (fun a _ q => q.elim id (fun q => Or.inl q))
  have hb3 : (yemb v).1 b = some (pints 8 (upd f1 0 0)) := by
    rw [yemb_hi hb.1, Ff.K, ← yemb_hi hb.1 (t := u), hb2]
  refine ⟨yemb v, fun Q => ?_, ⟨I3, upd f1 0 0, hb3, z2⟩, F23⟩
  have r0 : xRd σ b = some (.inl (0, (8, .inl f))) := by rw [yrd_lt hb.2, h1]
  have i0 : yix 0 8 := yix8_ 0 (by decide)
  have n20 : ¬ (20 : Int32) = 0 := by decide
  have a7 : yI l.length - yI l.length / 20 * 20 = yI (l.length % 20) := yI_mod (by omega) (by decide) (by decide)
  have g185 := h_185 pO k3
  have g185' : Ra (d + 23) 185 [.ref 0, .int (yI l.length)] (yemb u) (.inl (some (.int (yI (yxK T 3 0 c' (0, (D, 0))).2.2)))) (yemb v) := g185
  by_cases hq : l.length % 20 = 0
  · have e1 := t1 hq
    subst e1
    have z0 : yI (l.length % 20) ≤ 0 := by rw [hq]; decide
    show G (d + 24) 202 0 [some (.ref 0), some (.ref b), none] [] τ1 Q ↔ _
    simp only [s_202_0, s_202_1, s_202_2, s_202_3, s_202_4, s_202_5, s_202_7, s_202_8, s_202_9, s_202_10, s_202_11, s_202_12, s_202_13, s_202_14, s_202_6 n20, r0, h2, a7, z0, i0, q1, hb.2, ycl_0, if_true, hgf_s, hsel_0, hsel_1, hsel_2, hsel_3, hsel_4, hsel_5, hsel_6, hsel_7, hsel_8, hset_0, hset_1, hset_2, hset_3, hset_4, hset_5, hset_6, hset_7, hset_8, hpf_s, hcl_s, hai_s, hpi_0, hpi_1, hln_0, hln_1, List.length_cons, List.length_nil, xwr_1, xwr_2, xnew_1, xnew_n, xnew_s, xnew_z, Nat.reduceLT, ite_true, and_self, hp_8_0, hp_8_1, hn_8_1, hp_8_2, hn_8_2, hp_9_0, hp_9_1, hp_9_2, hp_9_3, hp_9_4, hp_9_5, hn_9_5, hp_9_6, hn_9_6, hp_9_7, hn_9_7, hp_10_0, hp_10_1, hp_10_2, hn_10_2, hp_10_3, hn_10_3, hp_11_0, hp_12_0, hn_12_0, hp_12_1, hp_12_2, hp_12_3, hp_12_4, hp_12_5, hn_12_5, hp_12_6, hn_12_6, hp_12_7, hp_12_8, hp_13_0, hn_13_0, hp_13_1, hp_13_2, hp_13_3, hp_14_0, hn_14_0, hp_14_1, hp_14_2, hp_14_3, xdef_8, xdef_9, xdef_10, xdef_11, xdef_12, xdef_13, xdef_14, Gk_v, Gk_n, xcat_nil, xcat_i, xcat_r, xcat_l, xcat_d, Nat.zero_le, Nat.reduceAdd, Nat.reduceLeDiff, true_and, and_true, ykl_i, ykl_r, ykl_n, ykl_l]
    rw [← hτ2]
    simp only [s_202_15, s_202_16, s_202_17, s_202_18, g185' _, Gk_v, Gk_n, xcat_nil, xcat_i, xcat_r, xcat_l, xcat_d, Nat.zero_le, Nat.reduceAdd, Nat.reduceLeDiff, true_and, and_true, ykl_i, ykl_r, ykl_n, ykl_l]
  · have k1 := t2 hq
    have z0 : ¬ yI (l.length % 20) ≤ 0 := fun g => by
      have := (yI_le (m := 0) (by omega) (by decide)).mp g
      omega
    have k1' : Ra (d + 23) 180 [.ref 0, .ref b] σ (.inl none) τ1 := k1
    show G (d + 24) 202 0 [some (.ref 0), some (.ref b), none] [] σ Q ↔ _
    simp only [s_202_0, s_202_1, s_202_2, s_202_3, s_202_4, s_202_5, s_202_7, s_202_8, s_202_9, s_202_10, s_202_11, s_202_12, s_202_13, s_202_14, s_202_6 n20, r0, h2, a7, z0, i0, q1, hb.2, k1' _, ycl_0, if_false, hgf_s, hsel_0, hsel_1, hsel_2, hsel_3, hsel_4, hsel_5, hsel_6, hsel_7, hsel_8, hset_0, hset_1, hset_2, hset_3, hset_4, hset_5, hset_6, hset_7, hset_8, hpf_s, hcl_s, hai_s, hpi_0, hpi_1, hln_0, hln_1, List.length_cons, List.length_nil, xwr_1, xwr_2, xnew_1, xnew_n, xnew_s, xnew_z, Nat.reduceLT, ite_true, and_self, hp_8_0, hp_8_1, hn_8_1, hp_8_2, hn_8_2, hp_9_0, hp_9_1, hp_9_2, hp_9_3, hp_9_4, hp_9_5, hn_9_5, hp_9_6, hn_9_6, hp_9_7, hn_9_7, hp_10_0, hp_10_1, hp_10_2, hn_10_2, hp_10_3, hn_10_3, hp_11_0, hp_12_0, hn_12_0, hp_12_1, hp_12_2, hp_12_3, hp_12_4, hp_12_5, hn_12_5, hp_12_6, hn_12_6, hp_12_7, hp_12_8, hp_13_0, hn_13_0, hp_13_1, hp_13_2, hp_13_3, hp_14_0, hn_14_0, hp_14_1, hp_14_2, hp_14_3, xdef_8, xdef_9, xdef_10, xdef_11, xdef_12, xdef_13, xdef_14, Gk_v, Gk_n, xcat_nil, xcat_i, xcat_r, xcat_l, xcat_d, Nat.zero_le, Nat.reduceAdd, Nat.reduceLeDiff, true_and, and_true, ykl_i, ykl_r, ykl_n, ykl_l]
    rw [← hτ2]
    simp only [s_202_15, s_202_16, s_202_17, s_202_18, g185' _, Gk_v, Gk_n, xcat_nil, xcat_i, xcat_r, xcat_l, xcat_d, Nat.zero_le, Nat.reduceAdd, Nat.reduceLeDiff, true_and, and_true, ykl_i, ykl_r, ykl_n, ykl_l]
end

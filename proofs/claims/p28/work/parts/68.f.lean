/-! ===== the law's own strips: currents, what is wrong ===== -/
section
variable {d : Nat} {s : Nat} {R : pR} {D : yD} {cv : Value} {dn en : Int32}
theorem l_140 (hD : yDok D) : ∀ m p a (σ : xS), pS σ s R D cv dn en → pZ σ → σ.2.1.1 + m < 900000 → p + m = D.n → ∃ τ, Ga (d + 3) 140 4 [some (.ref s), some (.int a), some (.int (yI p))] [] σ (.inl (some (.int (yfold (fun p a => a + ycur D.un (yshown D p)) m p a)))) τ ∧ pF pno m (3 * m) σ τ := by
  have hn40 := hD.n40
  intro m
  induction m with
  | zero =>
    intro p a σ S Z hr hp
    obtain ⟨gg, e1, e2⟩ := S.lrow
    have h1 : yI D.n ≤ yI p := (yI_le (by omega) (by omega)).mpr (by omega)
    refine ⟨σ, fun Q => ?_, pF.rfl'⟩
    rw [s_140_4]
    simp only [s_140_0, s_140_1, s_140_2, s_140_3, s_140_5, s_140_6, s_140_7, s_140_8, s_140_9, s_140_10, s_140_11, s_140_12, s_140_13, s_140_14, s_140_15, s_140_16, s_140_17, s_140_18, s_140_19, s_140_20, S.ob, e1, hln_r S.lr0 (show 4 ≤ 6 ∧ 6 ≤ 8 by decide), h1, if_true, yfold, hgf_s, hsel_0, hsel_1, hsel_2, hsel_3, hsel_4, hsel_5, hsel_6, hsel_7, hsel_8, hset_0, hset_1, hset_2, hset_3, hset_4, hset_5, hset_6, hset_7, hset_8, hpf_s, hcl_s, hai_s, hpi_0, hpi_1, hln_0, hln_1, List.length_cons, List.length_nil, xwr_1, xwr_2, xnew_1, xnew_n, xnew_s, xnew_z, Nat.reduceLT, ite_true, and_self, hp_8_0, hp_8_1, hn_8_1, hp_8_2, hn_8_2, hp_9_0, hp_9_1, hp_9_2, hp_9_3, hp_9_4, hp_9_5, hn_9_5, hp_9_6, hn_9_6, hp_9_7, hn_9_7, hp_10_0, hp_10_1, hp_10_2, hn_10_2, hp_10_3, hn_10_3, hp_11_0, hp_12_0, hn_12_0, hp_12_1, hp_12_2, hp_12_3, hp_12_4, hp_12_5, hn_12_5, hp_12_6, hn_12_6, hp_12_7, hp_12_8, hp_13_0, hn_13_0, hp_13_1, hp_13_2, hp_13_3, hp_14_0, hn_14_0, hp_14_1, hp_14_2, hp_14_3, xdef_8, xdef_9, xdef_10, xdef_11, xdef_12, xdef_13, xdef_14, Gk_v, Gk_n, xcat_nil, xcat_i, xcat_r, xcat_l, xcat_d, Nat.zero_le, Nat.reduceAdd, Nat.reduceLeDiff, true_and, and_true, ykl_i, ykl_r, ykl_n, ykl_l]
  | succ m ih =>
    intro p a σ S Z hr hp
    obtain ⟨gg, e1, e2⟩ := S.lrow
    have hpn : p < D.n := by omega
    have h1 : ¬ yI D.n ≤ yI p := fun h => absurd ((yI_le (by omega) (by omega)).mp h) (by omega)
    have h4 : yI p + 1 = yI (p + 1) := yI_add
    obtain ⟨b, τ1, k1, F1, c1, -⟩ := m_139 (d := d) S hD Z hpn (by omega)
    have S1 := S.no Z F1
    have Z1 := pZ_F Z F1
    have k2 := m_137 (d := d + 2) S1 c1
    obtain ⟨τ, k3, F2⟩ := ih (p + 1) (a + ycur D.un (yshown D p)) τ1 S1 Z1 (by have := F1.2.2.1.2; omega) (by omega)
    refine ⟨τ, fun Q => ?_, (F1.no_trans F2).mono (fun _ _ q => q) (by omega) (by omega)⟩
    have o1 := S.ob
    have o2 := S1.ob
    rw [s_140_4]
    simp only [s_140_0, s_140_1, s_140_2, s_140_3, s_140_5, s_140_6, s_140_7, s_140_8, s_140_9, s_140_10, s_140_11, s_140_12, s_140_13, s_140_14, s_140_15, s_140_16, s_140_17, s_140_18, s_140_19, s_140_20, o1, o2, e1, hln_r S.lr0 (show 4 ≤ 6 ∧ 6 ≤ 8 by decide), h1, h4, k1 _, k2 _, if_false, yfold, hgf_s, hsel_0, hsel_1, hsel_2, hsel_3, hsel_4, hsel_5, hsel_6, hsel_7, hsel_8, hset_0, hset_1, hset_2, hset_3, hset_4, hset_5, hset_6, hset_7, hset_8, hpf_s, hcl_s, hai_s, hpi_0, hpi_1, hln_0, hln_1, List.length_cons, List.length_nil, xwr_1, xwr_2, xnew_1, xnew_n, xnew_s, xnew_z, Nat.reduceLT, ite_true, and_self, hp_8_0, hp_8_1, hn_8_1, hp_8_2, hn_8_2, hp_9_0, hp_9_1, hp_9_2, hp_9_3, hp_9_4, hp_9_5, hn_9_5, hp_9_6, hn_9_6, hp_9_7, hn_9_7, hp_10_0, hp_10_1, hp_10_2, hn_10_2, hp_10_3, hn_10_3, hp_11_0, hp_12_0, hn_12_0, hp_12_1, hp_12_2, hp_12_3, hp_12_4, hp_12_5, hn_12_5, hp_12_6, hn_12_6, hp_12_7, hp_12_8, hp_13_0, hn_13_0, hp_13_1, hp_13_2, hp_13_3, hp_14_0, hn_14_0, hp_14_1, hp_14_2, hp_14_3, xdef_8, xdef_9, xdef_10, xdef_11, xdef_12, xdef_13, xdef_14, Gk_v, Gk_n, xcat_nil, xcat_i, xcat_r, xcat_l, xcat_d, Nat.zero_le, Nat.reduceAdd, Nat.reduceLeDiff, true_and, and_true, ykl_i, ykl_r, ykl_n, ykl_l]
    exact k3 Q
theorem m_140 {σ : xS} (S : pS σ s R D cv dn en) (hD : yDok D) (Z : pZ σ) (hr : σ.2.1.1 + D.n < 900000) : ∃ τ, Ra (d + 3) 140 [.ref s] σ (.inl (some (.int (ycurrent D)))) τ ∧ pF pno D.n (3 * D.n) σ τ := by
  obtain ⟨τ, h, F⟩ := l_140 (d := d) hD D.n 0 0 σ S Z hr (by omega)
  refine ⟨τ, fun Q => ?_, F⟩
  rw [ycurrent_flat hD]
  show G (d + 3) 140 0 [some (.ref s), none, none] [] σ Q ↔ _
  simp only [s_140_0, s_140_1, s_140_2, s_140_3, Gk_v, Gk_n, xcat_nil, xcat_i, xcat_r, xcat_l, xcat_d, Nat.zero_le, Nat.reduceAdd, Nat.reduceLeDiff, true_and, and_true, ykl_i, ykl_r, ykl_n, ykl_l]
  exact h Q
variable {σ : xS}
theorem m_141 (S : pS σ s R D cv dn en) {p : Nat} (hD : yDok D) (hp : p < D.n) : Ra (d + 1) 141 [.ref s, .int (yI p)] σ (.inl (some (.int (yb (ywrong D p))))) σ := by
  intro Q
  obtain ⟨gg, e1, e2⟩ := S.lrow
  have hn40 := hD.n40
  have c2 : yix (yI p) D.n := yix_I (by omega) (by omega)
  have c3 : (yI p).toNatClampNeg = p := yI_clamp (by omega)
  have l0 := S.lm0 hp
  have l1 := S.lm1 hp
  have g1 := m_203 (d := d) (S.tk hp).1 (S.du hp).1 (S.tk hp).2 (S.du hp).2
  show G (d + 1) 141 0 [some (.ref s), some (.int (yI p)), none] [] σ Q ↔ _
  simp only [s_141_0, s_141_1, s_141_2, s_141_3, s_141_4, s_141_5, s_141_6, s_141_7, s_141_8, s_141_9, s_141_10, s_141_11, s_141_12, s_141_13, s_141_14, s_141_15, s_141_16, s_141_17, s_141_18, s_141_19, s_141_20, s_141_21, s_141_22, s_141_23, s_141_24, s_141_25, S.ob, e1, e2 p hp, l0, l1, haa_t S.lr0 (show 4 ≤ 6 ∧ 6 ≤ 8 by decide), c2, c3, hop_s, plamp, ne_eq, g1 _, hgf_s, hsel_0, hsel_1, hsel_2, hsel_3, hsel_4, hsel_5, hsel_6, hsel_7, hsel_8, hset_0, hset_1, hset_2, hset_3, hset_4, hset_5, hset_6, hset_7, hset_8, hpf_s, hcl_s, hai_s, hpi_0, hpi_1, hln_0, hln_1, List.length_cons, List.length_nil, xwr_1, xwr_2, xnew_1, xnew_n, xnew_s, xnew_z, Nat.reduceLT, ite_true, and_self, hp_8_0, hp_8_1, hn_8_1, hp_8_2, hn_8_2, hp_9_0, hp_9_1, hp_9_2, hp_9_3, hp_9_4, hp_9_5, hn_9_5, hp_9_6, hn_9_6, hp_9_7, hn_9_7, hp_10_0, hp_10_1, hp_10_2, hn_10_2, hp_10_3, hn_10_3, hp_11_0, hp_12_0, hn_12_0, hp_12_1, hp_12_2, hp_12_3, hp_12_4, hp_12_5, hn_12_5, hp_12_6, hn_12_6, hp_12_7, hp_12_8, hp_13_0, hn_13_0, hp_13_1, hp_13_2, hp_13_3, hp_14_0, hn_14_0, hp_14_1, hp_14_2, hp_14_3, xdef_8, xdef_9, xdef_10, xdef_11, xdef_12, xdef_13, xdef_14, Gk_v, Gk_n, xcat_nil, xcat_i, xcat_r, xcat_l, xcat_d, Nat.zero_le, Nat.reduceAdd, Nat.reduceLeDiff, true_and, and_true, ykl_i, ykl_r, ykl_n, ykl_l]
  unfold ywrong yout
  cases hb : D.bp p
  · by_cases k1 : D.kd p = 1
    · simp [k1, yb, ybo_1]
    · by_cases k2 : D.kd p = 2
      · simp [k2, yb, ybo_1]
      · by_cases k3 : D.tk p = D.du p
        · simp [k1, k2, k3, yb, ybo_0]
        · simp [k1, k2, k3, yb, ybo_1]
  · simp [yb, ybo_0]
theorem l_142 (S : pS σ s R D cv dn en) (hD : yDok D) : ∀ m p a, p + m = D.n → Ga (d + 2) 142 4 [some (.ref s), some (.int a), some (.int (yI p))] [] σ (.inl (some (.int (yfold (fun p a => if ywrong D p then a + 1 else a) m p a)))) σ := by
  obtain ⟨gg, e1, e2⟩ := S.lrow
  have hn40 := hD.n40
  intro m
  induction m with
  | zero =>
    intro p a hp Q
    have h1 : yI D.n ≤ yI p := (yI_le (by omega) (by omega)).mpr (by omega)
    rw [s_142_4]
    simp only [s_142_0, s_142_1, s_142_2, s_142_3, s_142_5, s_142_6, s_142_7, s_142_8, s_142_9, s_142_10, s_142_11, s_142_12, s_142_13, s_142_14, s_142_15, s_142_16, s_142_17, S.ob, e1, hln_r S.lr0 (show 4 ≤ 6 ∧ 6 ≤ 8 by decide), h1, if_true, yfold, hgf_s, hsel_0, hsel_1, hsel_2, hsel_3, hsel_4, hsel_5, hsel_6, hsel_7, hsel_8, hset_0, hset_1, hset_2, hset_3, hset_4, hset_5, hset_6, hset_7, hset_8, hpf_s, hcl_s, hai_s, hpi_0, hpi_1, hln_0, hln_1, List.length_cons, List.length_nil, xwr_1, xwr_2, xnew_1, xnew_n, xnew_s, xnew_z, Nat.reduceLT, ite_true, and_self, hp_8_0, hp_8_1, hn_8_1, hp_8_2, hn_8_2, hp_9_0, hp_9_1, hp_9_2, hp_9_3, hp_9_4, hp_9_5, hn_9_5, hp_9_6, hn_9_6, hp_9_7, hn_9_7, hp_10_0, hp_10_1, hp_10_2, hn_10_2, hp_10_3, hn_10_3, hp_11_0, hp_12_0, hn_12_0, hp_12_1, hp_12_2, hp_12_3, hp_12_4, hp_12_5, hn_12_5, hp_12_6, hn_12_6, hp_12_7, hp_12_8, hp_13_0, hn_13_0, hp_13_1, hp_13_2, hp_13_3, hp_14_0, hn_14_0, hp_14_1, hp_14_2, hp_14_3, xdef_8, xdef_9, xdef_10, xdef_11, xdef_12, xdef_13, xdef_14, Gk_v, Gk_n, xcat_nil, xcat_i, xcat_r, xcat_l, xcat_d, Nat.zero_le, Nat.reduceAdd, Nat.reduceLeDiff, true_and, and_true, ykl_i, ykl_r, ykl_n, ykl_l]
  | succ m ih =>
    intro p a hp Q
    have hpn : p < D.n := by omega
    have h1 : ¬ yI D.n ≤ yI p := fun h => absurd ((yI_le (by omega) (by omega)).mp h) (by omega)
    have h4 : yI p + 1 = yI (p + 1) := yI_add
    have g1 := m_141 (d := d) S hD hpn
    rw [s_142_4]
    simp only [s_142_0, s_142_1, s_142_2, s_142_3, s_142_5, s_142_6, s_142_7, s_142_8, s_142_9, s_142_10, s_142_11, s_142_12, s_142_13, s_142_14, s_142_15, s_142_16, s_142_17, S.ob, e1, hln_r S.lr0 (show 4 ≤ 6 ∧ 6 ≤ 8 by decide), h1, h4, g1 _, ifb, ne_eq, if_false, yfold, hgf_s, hsel_0, hsel_1, hsel_2, hsel_3, hsel_4, hsel_5, hsel_6, hsel_7, hsel_8, hset_0, hset_1, hset_2, hset_3, hset_4, hset_5, hset_6, hset_7, hset_8, hpf_s, hcl_s, hai_s, hpi_0, hpi_1, hln_0, hln_1, List.length_cons, List.length_nil, xwr_1, xwr_2, xnew_1, xnew_n, xnew_s, xnew_z, Nat.reduceLT, ite_true, and_self, hp_8_0, hp_8_1, hn_8_1, hp_8_2, hn_8_2, hp_9_0, hp_9_1, hp_9_2, hp_9_3, hp_9_4, hp_9_5, hn_9_5, hp_9_6, hn_9_6, hp_9_7, hn_9_7, hp_10_0, hp_10_1, hp_10_2, hn_10_2, hp_10_3, hn_10_3, hp_11_0, hp_12_0, hn_12_0, hp_12_1, hp_12_2, hp_12_3, hp_12_4, hp_12_5, hn_12_5, hp_12_6, hn_12_6, hp_12_7, hp_12_8, hp_13_0, hn_13_0, hp_13_1, hp_13_2, hp_13_3, hp_14_0, hn_14_0, hp_14_1, hp_14_2, hp_14_3, xdef_8, xdef_9, xdef_10, xdef_11, xdef_12, xdef_13, xdef_14, Gk_v, Gk_n, xcat_nil, xcat_i, xcat_r, xcat_l, xcat_d, Nat.zero_le, Nat.reduceAdd, Nat.reduceLeDiff, true_and, and_true, ykl_i, ykl_r, ykl_n, ykl_l]
    cases hb : ywrong D p
    · simp only [Bool.false_eq_true, if_false]
      exact ih (p + 1) a (by omega) Q
    · simp only [if_true]
      exact ih (p + 1) _ (by omega) Q
theorem m_142 (S : pS σ s R D cv dn en) (hD : yDok D) : Ra (d + 2) 142 [.ref s] σ (.inl (some (.int (ywrongs D)))) σ := by
  intro Q
  have h := l_142 (d := d) S hD D.n 0 0 (by omega) Q
  show G (d + 2) 142 0 [some (.ref s), none, none] [] σ Q ↔ _
  simp only [s_142_0, s_142_1, s_142_2, s_142_3, Gk_v, Gk_n, xcat_nil, xcat_i, xcat_r, xcat_l, xcat_d, Nat.zero_le, Nat.reduceAdd, Nat.reduceLeDiff, true_and, and_true, ykl_i, ykl_r, ykl_n, ykl_l]
  exact h
theorem l_149 (S : pS σ s R D cv dn en) (hD : yDok D) {n : Nat} {l1 : Option Value} (hn : n = D.n) : ∀ m p l6, p + m = D.n → Ga d 149 10 [some (.ref s), some (.int 0), some (.int (yI (ycn (yisbad D) p))), some (.ref R.lr), some (.int (yI n)), some (.int (yI p)), l6] [] σ (.inl (some (.int (yI (ycn (yisbad D) D.n))))) σ := by
  obtain ⟨gg, e1, e2⟩ := S.lrow
  have hn40 := hD.n40
  subst hn
  intro m
  induction m with
  | zero =>
    intro p l6 hp Q
    have e : p = D.n := by omega
    subst e
    have h1 : yI D.n ≤ yI D.n := Int32.le_refl _
    rw [s_149_10]
    simp only [s_149_0, s_149_1, s_149_2, s_149_3, s_149_5, s_149_6, s_149_7, s_149_8, s_149_9, s_149_11, s_149_12, s_149_13, s_149_14, s_149_15, s_149_17, s_149_18, s_149_19, s_149_20, s_149_21, s_149_22, s_149_23, s_149_24, s_149_25, s_149_26, s_149_27, s_149_28, s_149_29, h1, if_true, hgf_s, hsel_0, hsel_1, hsel_2, hsel_3, hsel_4, hsel_5, hsel_6, hsel_7, hsel_8, hset_0, hset_1, hset_2, hset_3, hset_4, hset_5, hset_6, hset_7, hset_8, hpf_s, hcl_s, hai_s, hpi_0, hpi_1, hln_0, hln_1, List.length_cons, List.length_nil, xwr_1, xwr_2, xnew_1, xnew_n, xnew_s, xnew_z, Nat.reduceLT, ite_true, and_self, hp_8_0, hp_8_1, hn_8_1, hp_8_2, hn_8_2, hp_9_0, hp_9_1, hp_9_2, hp_9_3, hp_9_4, hp_9_5, hn_9_5, hp_9_6, hn_9_6, hp_9_7, hn_9_7, hp_10_0, hp_10_1, hp_10_2, hn_10_2, hp_10_3, hn_10_3, hp_11_0, hp_12_0, hn_12_0, hp_12_1, hp_12_2, hp_12_3, hp_12_4, hp_12_5, hn_12_5, hp_12_6, hn_12_6, hp_12_7, hp_12_8, hp_13_0, hn_13_0, hp_13_1, hp_13_2, hp_13_3, hp_14_0, hn_14_0, hp_14_1, hp_14_2, hp_14_3, xdef_8, xdef_9, xdef_10, xdef_11, xdef_12, xdef_13, xdef_14, Gk_v, Gk_n, xcat_nil, xcat_i, xcat_r, xcat_l, xcat_d, Nat.zero_le, Nat.reduceAdd, Nat.reduceLeDiff, true_and, and_true, ykl_i, ykl_r, ykl_n, ykl_l]
  | succ m ih =>
    intro p l6 hp Q
    have hpn : p < D.n := by omega
    have h1 : ¬ yI D.n ≤ yI p := fun h => absurd ((yI_le (by omega) (by omega)).mp h) (by omega)
    have h4 : yI p + 1 = yI (p + 1) := yI_add
    have c2 : yix (yI p) D.n := yix_I (by omega) (by omega)
    have c3 : (yI p).toNatClampNeg = p := yI_clamp (by omega)
    have l0 := S.lm0 hpn
    have l1 := S.lm1 hpn
    have h5 : yI (ycn (yisbad D) p) + 1 = yI (ycn (yisbad D) p + 1) := yI_add
    rw [s_149_10]
    simp only [s_149_0, s_149_1, s_149_2, s_149_3, s_149_5, s_149_6, s_149_7, s_149_8, s_149_9, s_149_11, s_149_12, s_149_13, s_149_14, s_149_15, s_149_17, s_149_18, s_149_19, s_149_20, s_149_21, s_149_22, s_149_23, s_149_24, s_149_25, s_149_26, s_149_27, s_149_28, s_149_29, s_149_16 l0, e1, e2 p hpn, l0, l1, haa_t S.lr0 (show 4 ≤ 6 ∧ 6 ≤ 8 by decide), c2, c3, hop_s, plamp, h1, h4, h5, ifbn, ifb, not_true_eq_false, ne_eq, if_false, hgf_s, hsel_0, hsel_1, hsel_2, hsel_3, hsel_4, hsel_5, hsel_6, hsel_7, hsel_8, hset_0, hset_1, hset_2, hset_3, hset_4, hset_5, hset_6, hset_7, hset_8, hpf_s, hcl_s, hai_s, hpi_0, hpi_1, hln_0, hln_1, List.length_cons, List.length_nil, xwr_1, xwr_2, xnew_1, xnew_n, xnew_s, xnew_z, Nat.reduceLT, ite_true, and_self, hp_8_0, hp_8_1, hn_8_1, hp_8_2, hn_8_2, hp_9_0, hp_9_1, hp_9_2, hp_9_3, hp_9_4, hp_9_5, hn_9_5, hp_9_6, hn_9_6, hp_9_7, hn_9_7, hp_10_0, hp_10_1, hp_10_2, hn_10_2, hp_10_3, hn_10_3, hp_11_0, hp_12_0, hn_12_0, hp_12_1, hp_12_2, hp_12_3, hp_12_4, hp_12_5, hn_12_5, hp_12_6, hn_12_6, hp_12_7, hp_12_8, hp_13_0, hn_13_0, hp_13_1, hp_13_2, hp_13_3, hp_14_0, hn_14_0, hp_14_1, hp_14_2, hp_14_3, xdef_8, xdef_9, xdef_10, xdef_11, xdef_12, xdef_13, xdef_14, Gk_v, Gk_n, xcat_nil, xcat_i, xcat_r, xcat_l, xcat_d, Nat.zero_le, Nat.reduceAdd, Nat.reduceLeDiff, true_and, and_true, ykl_i, ykl_r, ykl_n, ykl_l]
    have hh : ycn (yisbad D) (p + 1) = ycn (yisbad D) p + (if yisbad D p = true then 1 else 0) := rfl
    have kk := hD.kdk p hpn
    cases hb : D.bp p
    · rcases kk with k | k | k | k
      · have : yisbad D p = false := by unfold yisbad; rw [k]; rfl
        rw [this] at hh
        simp only [k, yb, Bool.false_eq_true, Int32.le_refl, if_true, if_false] at hh ⊢
        have := ih (p + 1) (some (.ref (R.lm p))) (by omega) Q
        rw [hh] at this
        exact this
      · have : yisbad D p = true := by unfold yisbad; rw [k, hb]; rfl
        rw [this] at hh
        simp only [k, yb, Bool.false_eq_true, show ¬ (1 : Int32) ≤ 0 from by decide, not_true_eq_false, if_true, if_false] at hh ⊢
        have := ih (p + 1) (some (.ref (R.lm p))) (by omega) Q
        rw [hh] at this
        exact this
      · have : yisbad D p = true := by unfold yisbad; rw [k, hb]; rfl
        rw [this] at hh
        simp only [k, yb, Bool.false_eq_true, show ¬ (2 : Int32) ≤ 0 from by decide, not_true_eq_false, if_true, if_false] at hh ⊢
        have := ih (p + 1) (some (.ref (R.lm p))) (by omega) Q
        rw [hh] at this
        exact this
      · have : yisbad D p = true := by unfold yisbad; rw [k, hb]; rfl
        rw [this] at hh
        simp only [k, yb, Bool.false_eq_true, show ¬ (3 : Int32) ≤ 0 from by decide, not_true_eq_false, if_true, if_false] at hh ⊢
        have := ih (p + 1) (some (.ref (R.lm p))) (by omega) Q
        rw [hh] at this
        exact this
    · have : yisbad D p = false := by unfold yisbad; rw [hb]; cases (D.kd p != 0) <;> rfl
      rw [this] at hh
      have := ih (p + 1) (some (.ref (R.lm p))) (by omega) Q
      rw [hh] at this
      simp only [Bool.false_eq_true, if_false, Nat.add_zero] at this
      rcases kk with k | k | k | k
      all_goals
        simp only [k, yb, if_true, if_false, Int32.le_refl, show ¬ (1 : Int32) = 0 from by decide, show ¬ (1 : Int32) ≤ 0 from by decide, show ¬ (2 : Int32) ≤ 0 from by decide, show ¬ (3 : Int32) ≤ 0 from by decide, not_false_eq_true]
        exact this
theorem m_149 (S : pS σ s R D cv dn en) (hD : yDok D) : Ra d 149 [.ref s, .int 0] σ (.inl (some (.int (yI (ycn (yisbad D) D.n))))) σ := by
  intro Q
  obtain ⟨gg, e1, e2⟩ := S.lrow
  have h := l_149 (d := d) (l1 := none) S hD rfl D.n 0 none (by omega) Q
  show G d 149 0 [some (.ref s), some (.int 0), none, none, none, none, none] [] σ Q ↔ _
  simp only [s_149_0, s_149_1, s_149_2, s_149_3, s_149_4 S.lr0, s_149_5, s_149_6, s_149_7, s_149_8, s_149_9, S.ob, e1, hln_r S.lr0 (show 4 ≤ 6 ∧ 6 ≤ 8 by decide), hgf_s, hsel_0, hsel_1, hsel_2, hsel_3, hsel_4, hsel_5, hsel_6, hsel_7, hsel_8, hset_0, hset_1, hset_2, hset_3, hset_4, hset_5, hset_6, hset_7, hset_8, hpf_s, hcl_s, hai_s, hpi_0, hpi_1, hln_0, hln_1, List.length_cons, List.length_nil, xwr_1, xwr_2, xnew_1, xnew_n, xnew_s, xnew_z, Nat.reduceLT, ite_true, and_self, hp_8_0, hp_8_1, hn_8_1, hp_8_2, hn_8_2, hp_9_0, hp_9_1, hp_9_2, hp_9_3, hp_9_4, hp_9_5, hn_9_5, hp_9_6, hn_9_6, hp_9_7, hn_9_7, hp_10_0, hp_10_1, hp_10_2, hn_10_2, hp_10_3, hn_10_3, hp_11_0, hp_12_0, hn_12_0, hp_12_1, hp_12_2, hp_12_3, hp_12_4, hp_12_5, hn_12_5, hp_12_6, hn_12_6, hp_12_7, hp_12_8, hp_13_0, hn_13_0, hp_13_1, hp_13_2, hp_13_3, hp_14_0, hn_14_0, hp_14_1, hp_14_2, hp_14_3, xdef_8, xdef_9, xdef_10, xdef_11, xdef_12, xdef_13, xdef_14, Gk_v, Gk_n, xcat_nil, xcat_i, xcat_r, xcat_l, xcat_d, Nat.zero_le, Nat.reduceAdd, Nat.reduceLeDiff, true_and, and_true, ykl_i, ykl_r, ykl_n, ykl_l]
  exact h
end

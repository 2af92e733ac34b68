/-! ===== the law's own strips: the checksum ===== -/
section
variable {d : Nat} {s : Nat} {R : pR} {D : yD} {cv : Value} {dn en : Int32}
theorem m_150' {σ : xS} (S : pS σ s R D cv dn en) (hD : yDok D) (h9 : D.n ≤ 9) (Z : pZ σ) (hr : σ.2.1.1 + 9 < 900000) {w : Nat} (hw : w < 10) : ∃ τ, Ra (d + 4) 150 [.ref s, .int (yI w)] σ (.inl (some (.int (ytS D w)))) τ ∧ pF pno 9 27 σ τ := by
  obtain ⟨τ, h, F⟩ := m_150 (d := d) S hD Z (by omega) hw
  exact ⟨τ, h, F.mono (fun _ _ q => q) (by omega) (by omega)⟩
theorem l_153a (hD : yDok D) (h9 : D.n ≤ 9) : ∀ m w a l4 (σ : xS), pS σ s R D cv dn en → pZ σ → σ.2.1.1 + 9 * m < 900000 → w + m = 10 → ∃ τ, Gg (d + 5) 153 4 [some (.ref s), some (.long a), none, some (.int (yI w)), l4] [] σ 18 [some (.ref s), some (.long (yck1 D m w a)), none, some (.int (yI 10)), l4] [] τ ∧ pF pno (9 * m) (27 * m) σ τ := by
  intro m
  induction m with
  | zero =>
    intro w a l4 σ S Z hr hw
    have e : w = 10 := by omega
    subst e
    refine ⟨σ, fun Q => ?_, pF.rfl'⟩
    rw [s_153_4]
    simp only [s_153_5, s_153_6, show (10 : Int32) ≤ yI 10 from by decide, if_true, Gk_v, Gk_n, xcat_nil, xcat_i, xcat_r, xcat_l, xcat_d, Nat.zero_le, Nat.reduceAdd, Nat.reduceLeDiff, true_and, and_true, ykl_i, ykl_r, ykl_n, ykl_l]
    exact Iff.rfl
  | succ m ih =>
    intro w a l4 σ S Z hr hw
    have h1 : ¬ (10 : Int32) ≤ yI w := fun h => absurd ((yI_le (n := 10) (by omega) (by omega)).mp h) (by omega)
    have h4 : yI w + 1 = yI (w + 1) := yI_add
    obtain ⟨τ1, k1, F1⟩ := m_150' (d := d) S hD h9 Z (by omega) (w := w) (by omega)
    obtain ⟨τ, k2, F2⟩ := ih (w + 1) (31 * a + (ytS D w).toInt64) l4 τ1 (S.no Z F1) (pZ_F Z F1) (by have := F1.2.2.1.2; omega) (by omega)
    have o1 := S.ob
    refine ⟨τ, fun Q => ?_, (F1.no_trans F2).mono (fun _ _ q => q) (by omega) (by omega)⟩
    have k := k2 Q
    rw [s_153_4]
    simp only [s_153_5, s_153_6, s_153_7, s_153_8, s_153_9, s_153_10, s_153_11, s_153_12, s_153_13, s_153_14, s_153_15, s_153_16, s_153_17, h1, h4, o1, k1 _, if_false, hgf_s, hsel_0, hsel_1, hsel_2, hsel_3, hsel_4, hsel_5, hsel_6, hsel_7, hsel_8, hset_0, hset_1, hset_2, hset_3, hset_4, hset_5, hset_6, hset_7, hset_8, hpf_s, hcl_s, hai_s, hpi_0, hpi_1, hln_0, hln_1, List.length_cons, List.length_nil, xwr_1, xwr_2, xnew_1, xnew_n, xnew_s, xnew_z, Nat.reduceLT, ite_true, and_self, hp_8_0, hp_8_1, hn_8_1, hp_8_2, hn_8_2, hp_9_0, hp_9_1, hp_9_2, hp_9_3, hp_9_4, hp_9_5, hn_9_5, hp_9_6, hn_9_6, hp_9_7, hn_9_7, hp_10_0, hp_10_1, hp_10_2, hn_10_2, hp_10_3, hn_10_3, hp_11_0, hp_12_0, hn_12_0, hp_12_1, hp_12_2, hp_12_3, hp_12_4, hp_12_5, hn_12_5, hp_12_6, hn_12_6, hp_12_7, hp_12_8, hp_13_0, hn_13_0, hp_13_1, hp_13_2, hp_13_3, hp_14_0, hn_14_0, hp_14_1, hp_14_2, hp_14_3, xdef_8, xdef_9, xdef_10, xdef_11, xdef_12, xdef_13, xdef_14, Gk_v, Gk_n, xcat_nil, xcat_i, xcat_r, xcat_l, xcat_d, Nat.zero_le, Nat.reduceAdd, Nat.reduceLeDiff, true_and, and_true, ykl_i, ykl_r, ykl_n, ykl_l]
    exact k
theorem l_153b {p : Nat} (hD : yDok D) (hp : p < D.n) : ∀ m w a (σ : xS), pS σ s R D cv dn en → pZ σ → σ.2.1.1 + m < 900000 → w + m = 9 → ∃ τ, Gg (d + 5) 153 27 [some (.ref s), some (.long a), none, some (.int (yI p)), some (.int (yI w))] [] σ 42 [some (.ref s), some (.long (yfold (fun w a => 31 * a + (ytP D p w).toInt64) m w a)), none, some (.int (yI p)), some (.int (yI 9))] [] τ ∧ pF pno m (3 * m) σ τ := by
  intro m
  induction m with
  | zero =>
    intro w a σ S Z hr hw
    have e : w = 9 := by omega
    subst e
    refine ⟨σ, fun Q => ?_, pF.rfl'⟩
    rw [s_153_27]
    simp only [s_153_28, s_153_29, show (9 : Int32) ≤ yI 9 from by decide, if_true, Gk_v, Gk_n, xcat_nil, xcat_i, xcat_r, xcat_l, xcat_d, Nat.zero_le, Nat.reduceAdd, Nat.reduceLeDiff, true_and, and_true, ykl_i, ykl_r, ykl_n, ykl_l]
    exact Iff.rfl
  | succ m ih =>
    intro w a σ S Z hr hw
    have h1 : ¬ (9 : Int32) ≤ yI w := fun h => absurd ((yI_le (n := 9) (by omega) (by omega)).mp h) (by omega)
    have h4 : yI w + 1 = yI (w + 1) := yI_add
    obtain ⟨τ1, k1, F1⟩ := m_151 (d := d) S hD Z (by omega) hp (w := w) (by omega)
    obtain ⟨τ, k2, F2⟩ := ih (w + 1) (31 * a + (ytP D p w).toInt64) τ1 (S.no Z F1) (pZ_F Z F1) (by have := F1.2.2.1.2; omega) (by omega)
    have o1 := S.ob
    refine ⟨τ, fun Q => ?_, (F1.no_trans F2).mono (fun _ _ q => q) (by omega) (by omega)⟩
    have k := k2 Q
    rw [s_153_27]
    simp only [s_153_28, s_153_29, s_153_30, s_153_31, s_153_32, s_153_33, s_153_34, s_153_35, s_153_36, s_153_37, s_153_38, s_153_39, s_153_40, s_153_41, h1, h4, o1, k1 _, if_false, hgf_s, hsel_0, hsel_1, hsel_2, hsel_3, hsel_4, hsel_5, hsel_6, hsel_7, hsel_8, hset_0, hset_1, hset_2, hset_3, hset_4, hset_5, hset_6, hset_7, hset_8, hpf_s, hcl_s, hai_s, hpi_0, hpi_1, hln_0, hln_1, List.length_cons, List.length_nil, xwr_1, xwr_2, xnew_1, xnew_n, xnew_s, xnew_z, Nat.reduceLT, ite_true, and_self, hp_8_0, hp_8_1, hn_8_1, hp_8_2, hn_8_2, hp_9_0, hp_9_1, hp_9_2, hp_9_3, hp_9_4, hp_9_5, hn_9_5, hp_9_6, hn_9_6, hp_9_7, hn_9_7, hp_10_0, hp_10_1, hp_10_2, hn_10_2, hp_10_3, hn_10_3, hp_11_0, hp_12_0, hn_12_0, hp_12_1, hp_12_2, hp_12_3, hp_12_4, hp_12_5, hn_12_5, hp_12_6, hn_12_6, hp_12_7, hp_12_8, hp_13_0, hn_13_0, hp_13_1, hp_13_2, hp_13_3, hp_14_0, hn_14_0, hp_14_1, hp_14_2, hp_14_3, xdef_8, xdef_9, xdef_10, xdef_11, xdef_12, xdef_13, xdef_14, Gk_v, Gk_n, xcat_nil, xcat_i, xcat_r, xcat_l, xcat_d, Nat.zero_le, Nat.reduceAdd, Nat.reduceLeDiff, true_and, and_true, ykl_i, ykl_r, ykl_n, ykl_l]
    exact k
theorem l_153c (hD : yDok D) : ∀ m p a l4 (σ : xS), pS σ s R D cv dn en → pZ σ → σ.2.1.1 + 9 * m < 900000 → p + m = D.n → ∃ τ l4', Gg (d + 5) 153 20 [some (.ref s), some (.long a), none, some (.int (yI p)), l4] [] σ 44 [some (.ref s), some (.long (yck2 D m p a)), none, some (.int (yI D.n)), l4'] [] τ ∧ pF pno (9 * m) (27 * m) σ τ := by
  have hn40 := hD.n40
  intro m
  induction m with
  | zero =>
    intro p a l4 σ S Z hr hp
    obtain ⟨gg, e1, e2⟩ := S.lrow
    have e : p = D.n := by omega
    subst e
    have o1 := S.ob
    refine ⟨σ, l4, fun Q => ?_, pF.rfl'⟩
    rw [s_153_20]
    simp only [s_153_21, s_153_22, s_153_23, s_153_24, o1, e1, hln_r S.lr0 (show 4 ≤ 6 ∧ 6 ≤ 8 by decide), Int32.le_refl, if_true, hgf_s, hsel_0, hsel_1, hsel_2, hsel_3, hsel_4, hsel_5, hsel_6, hsel_7, hsel_8, hset_0, hset_1, hset_2, hset_3, hset_4, hset_5, hset_6, hset_7, hset_8, hpf_s, hcl_s, hai_s, hpi_0, hpi_1, hln_0, hln_1, List.length_cons, List.length_nil, xwr_1, xwr_2, xnew_1, xnew_n, xnew_s, xnew_z, Nat.reduceLT, ite_true, and_self, hp_8_0, hp_8_1, hn_8_1, hp_8_2, hn_8_2, hp_9_0, hp_9_1, hp_9_2, hp_9_3, hp_9_4, hp_9_5, hn_9_5, hp_9_6, hn_9_6, hp_9_7, hn_9_7, hp_10_0, hp_10_1, hp_10_2, hn_10_2, hp_10_3, hn_10_3, hp_11_0, hp_12_0, hn_12_0, hp_12_1, hp_12_2, hp_12_3, hp_12_4, hp_12_5, hn_12_5, hp_12_6, hn_12_6, hp_12_7, hp_12_8, hp_13_0, hn_13_0, hp_13_1, hp_13_2, hp_13_3, hp_14_0, hn_14_0, hp_14_1, hp_14_2, hp_14_3, xdef_8, xdef_9, xdef_10, xdef_11, xdef_12, xdef_13, xdef_14, Gk_v, Gk_n, xcat_nil, xcat_i, xcat_r, xcat_l, xcat_d, Nat.zero_le, Nat.reduceAdd, Nat.reduceLeDiff, true_and, and_true, ykl_i, ykl_r, ykl_n, ykl_l]
    exact Iff.rfl
  | succ m ih =>
    intro p a l4 σ S Z hr hp
    obtain ⟨gg, e1, e2⟩ := S.lrow
    have h1 : ¬ yI D.n ≤ yI p := fun h => absurd ((yI_le (by omega) (by omega)).mp h) (by omega)
    have h4 : yI p + 1 = yI (p + 1) := yI_add
    obtain ⟨τ1, k1, F1⟩ := l_153b (d := d) (p := p) hD (by omega) 9 0 a σ S Z (by omega) (by omega)
    obtain ⟨τ, l4', k2, F2⟩ := ih (p + 1) (yfold (fun w a => 31 * a + (ytP D p w).toInt64) 9 0 a) (some (.int (yI 9))) τ1 (S.no Z F1) (pZ_F Z F1) (by have := F1.2.2.1.2; omega) (by omega)
    have o1 := S.ob
    refine ⟨τ, l4', fun Q => ?_, (F1.no_trans F2).mono (fun _ _ q => q) (by omega) (by omega)⟩
    have k := k2 Q
    have k1' := k1 Q
    rw [s_153_20]
    simp only [s_153_21, s_153_22, s_153_23, s_153_24, s_153_25, s_153_26, o1, e1, hln_r S.lr0 (show 4 ≤ 6 ∧ 6 ≤ 8 by decide), h1, if_false, hgf_s, hsel_0, hsel_1, hsel_2, hsel_3, hsel_4, hsel_5, hsel_6, hsel_7, hsel_8, hset_0, hset_1, hset_2, hset_3, hset_4, hset_5, hset_6, hset_7, hset_8, hpf_s, hcl_s, hai_s, hpi_0, hpi_1, hln_0, hln_1, List.length_cons, List.length_nil, xwr_1, xwr_2, xnew_1, xnew_n, xnew_s, xnew_z, Nat.reduceLT, ite_true, and_self, hp_8_0, hp_8_1, hn_8_1, hp_8_2, hn_8_2, hp_9_0, hp_9_1, hp_9_2, hp_9_3, hp_9_4, hp_9_5, hn_9_5, hp_9_6, hn_9_6, hp_9_7, hn_9_7, hp_10_0, hp_10_1, hp_10_2, hn_10_2, hp_10_3, hn_10_3, hp_11_0, hp_12_0, hn_12_0, hp_12_1, hp_12_2, hp_12_3, hp_12_4, hp_12_5, hn_12_5, hp_12_6, hn_12_6, hp_12_7, hp_12_8, hp_13_0, hn_13_0, hp_13_1, hp_13_2, hp_13_3, hp_14_0, hn_14_0, hp_14_1, hp_14_2, hp_14_3, xdef_8, xdef_9, xdef_10, xdef_11, xdef_12, xdef_13, xdef_14, Gk_v, Gk_n, xcat_nil, xcat_i, xcat_r, xcat_l, xcat_d, Nat.zero_le, Nat.reduceAdd, Nat.reduceLeDiff, true_and, and_true, ykl_i, ykl_r, ykl_n, ykl_l]
    refine k1'.trans ?_
    simp only [s_153_42, s_153_43, h4, Gk_v, Gk_n, xcat_nil, xcat_i, xcat_r, xcat_l, xcat_d, Nat.zero_le, Nat.reduceAdd, Nat.reduceLeDiff, true_and, and_true, ykl_i, ykl_r, ykl_n, ykl_l]
    exact k
theorem l_153d {σ : xS} {g : Nat} (hD : yDok D) (hg : g < D.f) (S : pS σ s R D cv dn en) : ∀ m w a, w + m = 4 → Gg (d + 5) 153 53 [some (.ref s), some (.long a), none, some (.int (yI g)), some (.int (yI w))] [] σ 68 [some (.ref s), some (.long (yfold (fun w a => 31 * a + (ytF' D g w).toInt64) m w a)), none, some (.int (yI g)), some (.int (yI 4))] [] σ := by
  intro m
  induction m with
  | zero =>
    intro w a hw Q
    have e : w = 4 := by omega
    subst e
    rw [s_153_53]
    simp only [s_153_54, s_153_55, show (4 : Int32) ≤ yI 4 from by decide, if_true, Gk_v, Gk_n, xcat_nil, xcat_i, xcat_r, xcat_l, xcat_d, Nat.zero_le, Nat.reduceAdd, Nat.reduceLeDiff, true_and, and_true, ykl_i, ykl_r, ykl_n, ykl_l]
    exact Iff.rfl
  | succ m ih =>
    intro w a hw Q
    have h1 : ¬ (4 : Int32) ≤ yI w := fun h => absurd ((yI_le (n := 4) (by omega) (by omega)).mp h) (by omega)
    have h4 : yI w + 1 = yI (w + 1) := yI_add
    have k1 := m_152 (d := d + 2) S hD hg (w := w) (by omega)
    have k := ih (w + 1) (31 * a + (ytF' D g w).toInt64) (by omega) Q
    have o1 := S.ob
    rw [s_153_53]
    simp only [s_153_54, s_153_55, s_153_56, s_153_57, s_153_58, s_153_59, s_153_60, s_153_61, s_153_62, s_153_63, s_153_64, s_153_65, s_153_66, s_153_67, h1, h4, o1, k1 _, if_false, hgf_s, hsel_0, hsel_1, hsel_2, hsel_3, hsel_4, hsel_5, hsel_6, hsel_7, hsel_8, hset_0, hset_1, hset_2, hset_3, hset_4, hset_5, hset_6, hset_7, hset_8, hpf_s, hcl_s, hai_s, hpi_0, hpi_1, hln_0, hln_1, List.length_cons, List.length_nil, xwr_1, xwr_2, xnew_1, xnew_n, xnew_s, xnew_z, Nat.reduceLT, ite_true, and_self, hp_8_0, hp_8_1, hn_8_1, hp_8_2, hn_8_2, hp_9_0, hp_9_1, hp_9_2, hp_9_3, hp_9_4, hp_9_5, hn_9_5, hp_9_6, hn_9_6, hp_9_7, hn_9_7, hp_10_0, hp_10_1, hp_10_2, hn_10_2, hp_10_3, hn_10_3, hp_11_0, hp_12_0, hn_12_0, hp_12_1, hp_12_2, hp_12_3, hp_12_4, hp_12_5, hn_12_5, hp_12_6, hn_12_6, hp_12_7, hp_12_8, hp_13_0, hn_13_0, hp_13_1, hp_13_2, hp_13_3, hp_14_0, hn_14_0, hp_14_1, hp_14_2, hp_14_3, xdef_8, xdef_9, xdef_10, xdef_11, xdef_12, xdef_13, xdef_14, Gk_v, Gk_n, xcat_nil, xcat_i, xcat_r, xcat_l, xcat_d, Nat.zero_le, Nat.reduceAdd, Nat.reduceLeDiff, true_and, and_true, ykl_i, ykl_r, ykl_n, ykl_l]
    exact k
theorem l_153e {σ : xS} (hD : yDok D) (S : pS σ s R D cv dn en) : ∀ m g a l4, g + m = D.f → Ga (d + 5) 153 46 [some (.ref s), some (.long a), none, some (.int (yI g)), l4] [] σ (.inl (some (.long (yck3 D m g a)))) σ := by
  have hf6 := hD.f6
  obtain ⟨gf, i1, i2⟩ := S.frow
  have o1 := S.ob
  intro m
  induction m with
  | zero =>
    intro g a l4 hg Q
    have e : g = D.f := by omega
    subst e
    rw [s_153_46]
    simp only [s_153_47, s_153_48, s_153_49, s_153_50, s_153_70, s_153_71, o1, i1, hln_r S.fr0 (show 4 ≤ 5 ∧ 5 ≤ 8 by decide), Int32.le_refl, if_true, hgf_s, hsel_0, hsel_1, hsel_2, hsel_3, hsel_4, hsel_5, hsel_6, hsel_7, hsel_8, hset_0, hset_1, hset_2, hset_3, hset_4, hset_5, hset_6, hset_7, hset_8, hpf_s, hcl_s, hai_s, hpi_0, hpi_1, hln_0, hln_1, List.length_cons, List.length_nil, xwr_1, xwr_2, xnew_1, xnew_n, xnew_s, xnew_z, Nat.reduceLT, ite_true, and_self, hp_8_0, hp_8_1, hn_8_1, hp_8_2, hn_8_2, hp_9_0, hp_9_1, hp_9_2, hp_9_3, hp_9_4, hp_9_5, hn_9_5, hp_9_6, hn_9_6, hp_9_7, hn_9_7, hp_10_0, hp_10_1, hp_10_2, hn_10_2, hp_10_3, hn_10_3, hp_11_0, hp_12_0, hn_12_0, hp_12_1, hp_12_2, hp_12_3, hp_12_4, hp_12_5, hn_12_5, hp_12_6, hn_12_6, hp_12_7, hp_12_8, hp_13_0, hn_13_0, hp_13_1, hp_13_2, hp_13_3, hp_14_0, hn_14_0, hp_14_1, hp_14_2, hp_14_3, xdef_8, xdef_9, xdef_10, xdef_11, xdef_12, xdef_13, xdef_14, Gk_v, Gk_n, xcat_nil, xcat_i, xcat_r, xcat_l, xcat_d, Nat.zero_le, Nat.reduceAdd, Nat.reduceLeDiff, true_and, and_true, ykl_i, ykl_r, ykl_n, ykl_l]
    exact Iff.rfl
  | succ m ih =>
    intro g a l4 hg Q
    have h1 : ¬ yI D.f ≤ yI g := fun h => absurd ((yI_le (by omega) (by omega)).mp h) (by omega)
    have h4 : yI g + 1 = yI (g + 1) := yI_add
    have k1 := l_153d (d := d) (g := g) hD (by omega) S 4 0 a (by omega) Q
    have k := ih (g + 1) (yfold (fun w a => 31 * a + (ytF' D g w).toInt64) 4 0 a) (some (.int (yI 4))) (by omega) Q
    rw [s_153_46]
    simp only [s_153_47, s_153_48, s_153_49, s_153_50, s_153_51, s_153_52, o1, i1, hln_r S.fr0 (show 4 ≤ 5 ∧ 5 ≤ 8 by decide), h1, if_false, hgf_s, hsel_0, hsel_1, hsel_2, hsel_3, hsel_4, hsel_5, hsel_6, hsel_7, hsel_8, hset_0, hset_1, hset_2, hset_3, hset_4, hset_5, hset_6, hset_7, hset_8, hpf_s, hcl_s, hai_s, hpi_0, hpi_1, hln_0, hln_1, List.length_cons, List.length_nil, xwr_1, xwr_2, xnew_1, xnew_n, xnew_s, xnew_z, Nat.reduceLT, ite_true, and_self, hp_8_0, hp_8_1, hn_8_1, hp_8_2, hn_8_2, hp_9_0, hp_9_1, hp_9_2, hp_9_3, hp_9_4, hp_9_5, hn_9_5, hp_9_6, hn_9_6, hp_9_7, hn_9_7, hp_10_0, hp_10_1, hp_10_2, hn_10_2, hp_10_3, hn_10_3, hp_11_0, hp_12_0, hn_12_0, hp_12_1, hp_12_2, hp_12_3, hp_12_4, hp_12_5, hn_12_5, hp_12_6, hn_12_6, hp_12_7, hp_12_8, hp_13_0, hn_13_0, hp_13_1, hp_13_2, hp_13_3, hp_14_0, hn_14_0, hp_14_1, hp_14_2, hp_14_3, xdef_8, xdef_9, xdef_10, xdef_11, xdef_12, xdef_13, xdef_14, Gk_v, Gk_n, xcat_nil, xcat_i, xcat_r, xcat_l, xcat_d, Nat.zero_le, Nat.reduceAdd, Nat.reduceLeDiff, true_and, and_true, ykl_i, ykl_r, ykl_n, ykl_l]
    refine k1.trans ?_
    simp only [s_153_68, s_153_69, h4, Gk_v, Gk_n, xcat_nil, xcat_i, xcat_r, xcat_l, xcat_d, Nat.zero_le, Nat.reduceAdd, Nat.reduceLeDiff, true_and, and_true, ykl_i, ykl_r, ykl_n, ykl_l]
    exact k
theorem m_153 {σ : xS} (S : pS σ s R D cv dn en) (hD : yDok D) (h9 : D.n ≤ 9) (Z : pZ σ) (hr : σ.2.1.1 + 180 < 900000) : ∃ τ, Ra (d + 5) 153 [.ref s] σ (.inl (some (.long (ysum D)))) τ ∧ pF pno 171 513 σ τ := by
  obtain ⟨τ1, k1, F1⟩ := l_153a (d := d) hD h9 10 0 0 none σ S Z (by omega) (by omega)
  obtain ⟨τ, l4, k2, F2⟩ := l_153c (d := d) hD D.n 0 (yck1 D 10 0 0) none τ1 (S.no Z F1) (pZ_F Z F1) (by have := F1.2.2.1.2; omega) (by omega)
  have S2 := (S.no Z F1).no (pZ_F Z F1) F2
  have k3 := l_153e (d := d) hD S2 D.f 0 (yck2 D D.n 0 (yck1 D 10 0 0)) l4 (by omega)
  refine ⟨τ, fun Q => ?_, (F1.no_trans F2).mono (fun _ _ q => q) (by omega) (by omega)⟩
  have k1' := k1 Q
  have k2' := k2 Q
  have k3' := k3 Q
  show G (d + 5) 153 0 [some (.ref s), none, none, none, none] [] σ Q ↔ _
  simp only [s_153_0, s_153_1, s_153_2, s_153_3, Gk_v, Gk_n, xcat_nil, xcat_i, xcat_r, xcat_l, xcat_d, Nat.zero_le, Nat.reduceAdd, Nat.reduceLeDiff, true_and, and_true, ykl_i, ykl_r, ykl_n, ykl_l]
  refine k1'.trans ?_
  simp only [s_153_18, s_153_19, Gk_v, Gk_n, xcat_nil, xcat_i, xcat_r, xcat_l, xcat_d, Nat.zero_le, Nat.reduceAdd, Nat.reduceLeDiff, true_and, and_true, ykl_i, ykl_r, ykl_n, ykl_l]
  refine k2'.trans ?_
  simp only [s_153_44, s_153_45, Gk_v, Gk_n, xcat_nil, xcat_i, xcat_r, xcat_l, xcat_d, Nat.zero_le, Nat.reduceAdd, Nat.reduceLeDiff, true_and, and_true, ykl_i, ykl_r, ykl_n, ykl_l]
  exact k3'
end

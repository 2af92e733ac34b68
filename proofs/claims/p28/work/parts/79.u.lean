/-! ===== the law's look at both sides: agrees ===== -/
section
variable {d : Nat} {σ σ0 τ : xS} {D : yD} {k : Nat} {E : Nat → yD} {s0 s1 : Option yD} {n : Nat} {B : Nat → Nat} {eo en : Int32} {s lo hi : Nat} {R : pR} {cv : Value} {dn en' : Int32} {c c' x x' : Nat}
/-- both sides hold the same data, since σ0 only the class's cells were touched -/
def pA (σ0 : xS) (lo hi c' x' : Nat) (s : Nat) (R : pR) (cv : Value) (dn en' : Int32) (D : yD) (k : Nat) (E : Nat → yD) (s0 s1 : Option yD) (n : Nat) (B : Nat → Nat) (eo en : Int32) (σ : xS) : Prop :=
  pI σ D k E s0 s1 n B eo en ∧ (pS σ s R D cv dn en' ∧ ((pJ lo hi s R D ∧ 160 ≤ lo) ∧ pF pcl c' x' σ0 σ))
theorem pS.cl (S : pS σ s R D cv dn en') (I : pI σ D k E s0 s1 n B eo en) (J : pJ lo hi s R D) (hlo : 160 ≤ lo) (F : pF pcl c x σ τ) : pS τ s R D cv dn en' :=
  S.fr I.Z J F (fun b _ hb hp => by have := pcl_lt hp; have := hb.1; omega) I.co
theorem pA.no (A : pA σ0 lo hi c' x' s R cv dn en' D k E s0 s1 n B eo en σ) (F : pF pno c x σ τ) : pA σ0 lo hi (c' + c) (x' + x) s R cv dn en' D k E s0 s1 n B eo en τ :=
  ⟨pI_F A.1 F (fun _ q => q.elim) (fun _ _ _ _ q => q), A.2.1.no A.1.Z F, A.2.2.1, pF_rd A.2.2.2 F⟩
theorem pA.cl (A : pA σ0 lo hi c' x' s R cv dn en' D k E s0 s1 n B eo en σ) (I : pI τ D k E s0 s1 n B eo en) (F : pF pcl c x σ τ) : pA σ0 lo hi (c' + c) (x' + x) s R cv dn en' D k E s0 s1 n B eo en τ :=
  ⟨I, A.2.1.cl A.1 A.2.2.1.1 A.2.2.1.2 F, A.2.2.1, pF.trans A.2.2.2 F (fun _ _ q => q.elim id id)⟩
theorem pcmp0 {v : Int64} : lg_cmp v v = 0 := by
  unfold lg_cmp
  simp
theorem l_209a (h9 : D.n ≤ 9) (hr : σ0.2.1.1 + 300 < 900000) {r : Nat} : ∀ m w c' x' σ, w + m = 10 → c' + 9 * m ≤ 270 → pA σ0 lo hi c' x' s R cv dn en' D k E s0 s1 n B eo en σ → ∃ τ, Gg (d + 7) 209 17 [some (.ref 0), some (.ref s), some (.int 1), some (.int (yI w))] [] σ 35 [some (.ref 0), some (.ref s), some (.int 1), some (.int (yI 10))] [] τ ∧ pA σ0 lo hi (c' + 9 * m) (x' + 27 * m) s R cv dn en' D k E s0 s1 n B eo en τ := by
  intro m
  induction m with
  | zero =>
    intro w c' x' σ hw hc A
    have ew : w = 10 := by omega
    subst ew
    refine ⟨σ, fun Q => ?_, A⟩
    have z1 : (10 : Int32) ≤ yI 10 := Int32.le_refl _
    rw [s_209_17]
    simp only [s_209_18, s_209_19, z1, if_true, Gk_v, Gk_n, xcat_nil, xcat_i, xcat_r, xcat_l, xcat_d, Nat.zero_le, Nat.reduceAdd, Nat.reduceLeDiff, true_and, and_true, ykl_i, ykl_r, ykl_n, ykl_l]
  | succ m ih =>
    intro w c' x' σ hw hc A
    have z1 : ¬ (10 : Int32) ≤ yI w := fun h => absurd ((yI_le (n := 10) (by decide) (by omega)).mp h) (by omega)
    have z4 : yI w + 1 = yI (w + 1) := yI_add
    have nx := A.2.2.2.2.2.1.2
    have g1 := c_186 (d := d) A.1 (w := w) (by omega)
    obtain ⟨τ1, g2, F1⟩ := m_150' (d := d + 2) A.2.1 A.1.ok h9 A.1.Z (by omega) (w := w) (by omega)
    obtain ⟨τ, i1, i2⟩ := ih (w + 1) (c' + 9) (x' + 27) τ1 (by omega) (by omega) (A.no F1)
    have o0 := A.2.1.ob
    refine ⟨τ, fun Q => ?_, by rw [show c' + 9 * (m + 1) = c' + 9 + 9 * m by omega, show x' + 27 * (m + 1) = x' + 27 + 27 * m by omega]; exact i2⟩
    refine Iff.trans ?_ (i1 Q)
    rw [s_209_17]
    simp only [s_209_18, s_209_19, s_209_20, s_209_21, s_209_22, s_209_23, s_209_24, s_209_25, s_209_26, s_209_27, s_209_28, s_209_29, s_209_30, s_209_31, s_209_32, s_209_33, s_209_34, z1, z4, g1 _, g2 _, o0, ne_eq, not_true_eq_false, show ¬ (1 : Int32) = 0 from by decide, if_false, hgf_s, hsel_0, hsel_1, hsel_2, hsel_3, hsel_4, hsel_5, hsel_6, hsel_7, hsel_8, hset_0, hset_1, hset_2, hset_3, hset_4, hset_5, hset_6, hset_7, hset_8, hpf_s, hcl_s, hai_s, hpi_0, hpi_1, hln_0, hln_1, List.length_cons, List.length_nil, xwr_1, xwr_2, xnew_1, xnew_n, xnew_s, xnew_z, Nat.reduceLT, ite_true, and_self, hp_8_0, hp_8_1, hn_8_1, hp_8_2, hn_8_2, hp_9_0, hp_9_1, hp_9_2, hp_9_3, hp_9_4, hp_9_5, hn_9_5, hp_9_6, hn_9_6, hp_9_7, hn_9_7, hp_10_0, hp_10_1, hp_10_2, hn_10_2, hp_10_3, hn_10_3, hp_11_0, hp_12_0, hn_12_0, hp_12_1, hp_12_2, hp_12_3, hp_12_4, hp_12_5, hn_12_5, hp_12_6, hn_12_6, hp_12_7, hp_12_8, hp_13_0, hn_13_0, hp_13_1, hp_13_2, hp_13_3, hp_14_0, hn_14_0, hp_14_1, hp_14_2, hp_14_3, xdef_8, xdef_9, xdef_10, xdef_11, xdef_12, xdef_13, xdef_14, Gk_v, Gk_n, xcat_nil, xcat_i, xcat_r, xcat_l, xcat_d, Nat.zero_le, Nat.reduceAdd, Nat.reduceLeDiff, true_and, and_true, ykl_i, ykl_r, ykl_n, ykl_l]
theorem l_209b (h9 : D.n ≤ 9) (hr : σ0.2.1.1 + 300 < 900000) : ∀ m p c' x' σ, p + m = D.n → c' + m ≤ 280 → pA σ0 lo hi c' x' s R cv dn en' D k E s0 s1 n B eo en σ → ∃ τ, Gg (d + 7) 209 37 [some (.ref 0), some (.ref s), some (.int 1), some (.int (yI p))] [] σ 66 [some (.ref 0), some (.ref s), some (.int 1), some (.int (yI D.n))] [] τ ∧ pA σ0 lo hi (c' + m) (x' + 3 * m) s R cv dn en' D k E s0 s1 n B eo en τ := by
  intro m
  induction m with
  | zero =>
    intro p c' x' σ hp hc A
    have ep : p = D.n := by omega
    subst ep
    have o0 := A.2.1.ob
    obtain ⟨g0, u0, -⟩ := A.2.1.lrow
    refine ⟨σ, fun Q => ?_, A⟩
    rw [s_209_37]
    simp only [s_209_38, s_209_39, s_209_40, s_209_41, o0, u0, hln_r A.2.1.lr0 (show 4 ≤ 6 ∧ 6 ≤ 8 by decide), Int32.le_refl, if_true, hgf_s, hsel_0, hsel_1, hsel_2, hsel_3, hsel_4, hsel_5, hsel_6, hsel_7, hsel_8, hset_0, hset_1, hset_2, hset_3, hset_4, hset_5, hset_6, hset_7, hset_8, hpf_s, hcl_s, hai_s, hpi_0, hpi_1, hln_0, hln_1, List.length_cons, List.length_nil, xwr_1, xwr_2, xnew_1, xnew_n, xnew_s, xnew_z, Nat.reduceLT, ite_true, and_self, hp_8_0, hp_8_1, hn_8_1, hp_8_2, hn_8_2, hp_9_0, hp_9_1, hp_9_2, hp_9_3, hp_9_4, hp_9_5, hn_9_5, hp_9_6, hn_9_6, hp_9_7, hn_9_7, hp_10_0, hp_10_1, hp_10_2, hn_10_2, hp_10_3, hn_10_3, hp_11_0, hp_12_0, hn_12_0, hp_12_1, hp_12_2, hp_12_3, hp_12_4, hp_12_5, hn_12_5, hp_12_6, hn_12_6, hp_12_7, hp_12_8, hp_13_0, hn_13_0, hp_13_1, hp_13_2, hp_13_3, hp_14_0, hn_14_0, hp_14_1, hp_14_2, hp_14_3, xdef_8, xdef_9, xdef_10, xdef_11, xdef_12, xdef_13, xdef_14, Gk_v, Gk_n, xcat_nil, xcat_i, xcat_r, xcat_l, xcat_d, Nat.zero_le, Nat.reduceAdd, Nat.reduceLeDiff, true_and, and_true, ykl_i, ykl_r, ykl_n, ykl_l]
  | succ m ih =>
    intro p c' x' σ hp hc A
    have hpn : p < D.n := by omega
    have z1 : ¬ yI D.n ≤ yI p := fun h => absurd ((yI_le (by omega) (by omega)).mp h) (by omega)
    have z4 : yI p + 1 = yI (p + 1) := yI_add
    have nx := A.2.2.2.2.2.1.2
    have g1 := c_189 (d := d) A.1 (by omega) hpn
    have g2 := m_148 (d := d + 4) A.2.1 A.1.ok hpn
    have g3 := c_187 (d := d) A.1 (w := 4) hpn (by decide)
    obtain ⟨τ1, g4, F1⟩ := m_151 (d := d + 2) A.2.1 A.1.ok A.1.Z (by omega) hpn (w := 4) (by decide)
    have g3' : Ra (d + 6) 187 [.ref 0, .int (yI p), .int 4] σ (.inl (some (.int (ytP D p 4)))) σ := g3
    have g4' : Ra (d + 2 + 4) 151 [.ref s, .int (yI p), .int 4] σ (.inl (some (.int (ytP D p 4)))) τ1 := g4
    obtain ⟨τ, i1, i2⟩ := ih (p + 1) (c' + 1) (x' + 3) τ1 (by omega) (by omega) (A.no F1)
    have o0 := A.2.1.ob
    obtain ⟨g0, u0, -⟩ := A.2.1.lrow
    refine ⟨τ, fun Q => ?_, by rw [show c' + (m + 1) = c' + 1 + m by omega, show x' + 3 * (m + 1) = x' + 3 + 3 * m by omega]; exact i2⟩
    refine Iff.trans ?_ (i1 Q)
    rw [s_209_37]
    simp only [s_209_38, s_209_39, s_209_40, s_209_41, s_209_42, s_209_43, s_209_44, s_209_45, s_209_46, s_209_47, s_209_48, s_209_49, s_209_50, s_209_51, s_209_52, s_209_53, s_209_54, s_209_55, s_209_56, s_209_57, s_209_58, s_209_59, s_209_60, s_209_61, s_209_62, s_209_63, s_209_64, s_209_65, z1, z4, g1 _, g2 _, g3' _, g4' _, o0, u0, hln_r A.2.1.lr0 (show 4 ≤ 6 ∧ 6 ≤ 8 by decide), ne_eq, not_true_eq_false, show ¬ (1 : Int32) = 0 from by decide, if_false, hgf_s, hsel_0, hsel_1, hsel_2, hsel_3, hsel_4, hsel_5, hsel_6, hsel_7, hsel_8, hset_0, hset_1, hset_2, hset_3, hset_4, hset_5, hset_6, hset_7, hset_8, hpf_s, hcl_s, hai_s, hpi_0, hpi_1, hln_0, hln_1, List.length_cons, List.length_nil, xwr_1, xwr_2, xnew_1, xnew_n, xnew_s, xnew_z, Nat.reduceLT, ite_true, and_self, hp_8_0, hp_8_1, hn_8_1, hp_8_2, hn_8_2, hp_9_0, hp_9_1, hp_9_2, hp_9_3, hp_9_4, hp_9_5, hn_9_5, hp_9_6, hn_9_6, hp_9_7, hn_9_7, hp_10_0, hp_10_1, hp_10_2, hn_10_2, hp_10_3, hn_10_3, hp_11_0, hp_12_0, hn_12_0, hp_12_1, hp_12_2, hp_12_3, hp_12_4, hp_12_5, hn_12_5, hp_12_6, hn_12_6, hp_12_7, hp_12_8, hp_13_0, hn_13_0, hp_13_1, hp_13_2, hp_13_3, hp_14_0, hn_14_0, hp_14_1, hp_14_2, hp_14_3, xdef_8, xdef_9, xdef_10, xdef_11, xdef_12, xdef_13, xdef_14, Gk_v, Gk_n, xcat_nil, xcat_i, xcat_r, xcat_l, xcat_d, Nat.zero_le, Nat.reduceAdd, Nat.reduceLeDiff, true_and, and_true, ykl_i, ykl_r, ykl_n, ykl_l]
theorem m_209 (I : pI σ D k E s0 s1 n B eo en) (S : pS σ s R D cv dn en') (J : pJ lo hi s R D) (hlo : 160 ≤ lo) (h9 : D.n ≤ 9) (hr : σ.2.1.1 + 300 < 900000) : ∃ τ, Ra (d + 7) 209 [.ref 0, .ref s] σ (.inl (some (.int 1))) τ ∧ (pI τ D k E s0 s1 n B eo en ∧ (pS τ s R D cv dn en' ∧ pF pcl 280 840 σ τ)) := by
  have hf6 := I.ok.f6
  have hn40 := I.ok.n40
  have A0 : pA σ lo hi 0 0 s R cv dn en' D k E s0 s1 n B eo en σ := ⟨I, S, ⟨J, hlo⟩, pF.rfl'⟩
  have g0 := c_118 (d := d) I
  obtain ⟨τ1, g1, F1⟩ := m_153 (d := d + 1) S I.ok h9 I.Z (by omega)
  have A1 := A0.no F1
  have nx1 := A1.2.2.2.2.2.1.2
  obtain ⟨τ2, g2, I2, F2⟩ := c_186t (d := d) A1.1 (by omega)
  have A2 := A1.cl I2 F2
  obtain ⟨τ3, g3, A3⟩ := l_209a (d := d) (r := 0) h9 hr 10 0 _ _ τ2 (by decide) (by decide) A2
  obtain ⟨τ4, g4, A4⟩ := l_209b (d := d) h9 hr D.n 0 _ _ τ3 (Nat.zero_add _) (by omega) A3
  have nx4 := A4.2.2.2.2.2.1.2
  obtain ⟨τ5, g5, I5, F5⟩ := c_187t (d := d) A4.1 (by omega) (p := D.n) (w := 0) (Nat.lt_irrefl _) (by omega)
  have A5 := A4.cl I5 F5
  have nx5 := A5.2.2.2.2.2.1.2
  obtain ⟨τ6, g6, I6, F6⟩ := c_188t (d := d + 1) A5.1 (by omega) (p := D.f) (w := 0) (Nat.lt_irrefl _) (by omega)
  have A6 := A5.cl I6 F6
  refine ⟨τ6, fun Q => ?_, A6.1, A6.2.1, A6.2.2.2.mono (fun _ _ q => q) (by omega) (by omega)⟩
  have o0 := S.ob
  have o4 := A4.2.1.ob
  have o5 := A5.2.1.ob
  obtain ⟨b4, u4, -⟩ := A4.2.1.lrow
  obtain ⟨b5, u5, -⟩ := A5.2.1.frow
  obtain ⟨fs, oc⟩ : ∃ fs, xRd σ 0 = some (.inr (7, fs)) := by
    obtain ⟨t, rfl, -, -⟩ := I
    exact pO
  show G (d + 7) 209 0 [some (.ref 0), some (.ref s), none, none] [] σ Q ↔ _
  have h3 := g3 Q
  have h4 := g4 Q
  simp only [s_209_0, s_209_1, s_209_2, s_209_3, s_209_4, s_209_5, s_209_6, s_209_7, s_209_8, s_209_9, s_209_10, s_209_11, s_209_12, s_209_13, s_209_14, s_209_15, s_209_16, g0 _, g1 _, g2 _, o0, oc, pcmp0, ne_eq, not_true_eq_false, if_false, hgf_s, hsel_0, hsel_1, hsel_2, hsel_3, hsel_4, hsel_5, hsel_6, hsel_7, hsel_8, hset_0, hset_1, hset_2, hset_3, hset_4, hset_5, hset_6, hset_7, hset_8, hpf_s, hcl_s, hai_s, hpi_0, hpi_1, hln_0, hln_1, List.length_cons, List.length_nil, xwr_1, xwr_2, xnew_1, xnew_n, xnew_s, xnew_z, Nat.reduceLT, ite_true, and_self, hp_8_0, hp_8_1, hn_8_1, hp_8_2, hn_8_2, hp_9_0, hp_9_1, hp_9_2, hp_9_3, hp_9_4, hp_9_5, hn_9_5, hp_9_6, hn_9_6, hp_9_7, hn_9_7, hp_10_0, hp_10_1, hp_10_2, hn_10_2, hp_10_3, hn_10_3, hp_11_0, hp_12_0, hn_12_0, hp_12_1, hp_12_2, hp_12_3, hp_12_4, hp_12_5, hn_12_5, hp_12_6, hn_12_6, hp_12_7, hp_12_8, hp_13_0, hn_13_0, hp_13_1, hp_13_2, hp_13_3, hp_14_0, hn_14_0, hp_14_1, hp_14_2, hp_14_3, xdef_8, xdef_9, xdef_10, xdef_11, xdef_12, xdef_13, xdef_14, Gk_v, Gk_n, xcat_nil, xcat_i, xcat_r, xcat_l, xcat_d, Nat.zero_le, Nat.reduceAdd, Nat.reduceLeDiff, true_and, and_true, ykl_i, ykl_r, ykl_n, ykl_l]
  refine h3.trans ?_
  simp only [s_209_35, s_209_36, Gk_v, Gk_n, xcat_nil, xcat_i, xcat_r, xcat_l, xcat_d, Nat.zero_le, Nat.reduceAdd, Nat.reduceLeDiff, true_and, and_true, ykl_i, ykl_r, ykl_n, ykl_l]
  refine h4.trans ?_
  simp only [s_209_66, s_209_67, s_209_68, s_209_69, s_209_70, s_209_71, s_209_72, s_209_73, s_209_74, s_209_75, s_209_76, s_209_77, s_209_78, s_209_79, s_209_80, s_209_81, s_209_82, s_209_83, s_209_84, s_209_85, s_209_86, s_209_87, g5 _, g6 _, o4, o5, u4, u5, hln_r A4.2.1.lr0 (show 4 ≤ 6 ∧ 6 ≤ 8 by decide), hln_r A5.2.1.fr0 (show 4 ≤ 5 ∧ 5 ≤ 8 by decide), ybo_1, ne_eq, not_true_eq_false, show ¬ (1 : Int32) = 0 from by decide, if_false, hgf_s, hsel_0, hsel_1, hsel_2, hsel_3, hsel_4, hsel_5, hsel_6, hsel_7, hsel_8, hset_0, hset_1, hset_2, hset_3, hset_4, hset_5, hset_6, hset_7, hset_8, hpf_s, hcl_s, hai_s, hpi_0, hpi_1, hln_0, hln_1, List.length_cons, List.length_nil, xwr_1, xwr_2, xnew_1, xnew_n, xnew_s, xnew_z, Nat.reduceLT, ite_true, and_self, hp_8_0, hp_8_1, hn_8_1, hp_8_2, hn_8_2, hp_9_0, hp_9_1, hp_9_2, hp_9_3, hp_9_4, hp_9_5, hn_9_5, hp_9_6, hn_9_6, hp_9_7, hn_9_7, hp_10_0, hp_10_1, hp_10_2, hn_10_2, hp_10_3, hn_10_3, hp_11_0, hp_12_0, hn_12_0, hp_12_1, hp_12_2, hp_12_3, hp_12_4, hp_12_5, hn_12_5, hp_12_6, hn_12_6, hp_12_7, hp_12_8, hp_13_0, hn_13_0, hp_13_1, hp_13_2, hp_13_3, hp_14_0, hn_14_0, hp_14_1, hp_14_2, hp_14_3, xdef_8, xdef_9, xdef_10, xdef_11, xdef_12, xdef_13, xdef_14, Gk_v, Gk_n, xcat_nil, xcat_i, xcat_r, xcat_l, xcat_d, Nat.zero_le, Nat.reduceAdd, Nat.reduceLeDiff, true_and, and_true, ykl_i, ykl_r, ykl_n, ykl_l]
end

/-! ===== the law's own strips: commands are done ===== -/
section
variable {d lo hi s p h a i nr r n k M : Nat} {cv ins : Value} {σ0 : xS} {T : yTb} {c : Nat → Int32}
theorem pF_then {σ τ : xS} {c1 s1 c2 s2 : Nat} (F : pF (pP lo hi σ0) c1 s1 σ0 σ) (Z0 : pZ σ0) (G : pF (pP lo hi σ) c2 s2 σ τ) : pF (pP lo hi σ0) (c1 + c2) (s1 + s2) σ0 τ := by
  refine pF.trans F G (fun b hb q => ?_)
  rcases q with q | q
  · exact q
  · exact ⟨q.1, fun e he hc => q.2 e (pF_co F Z0 b e he hc) hc⟩
/-- a command is done -/
theorem l_147d {dd : Nat} {σ : xS} {R : pR} {D : yD} {l7 : Option Value} (B : pU lo hi s cv (yI dd) 0 σ0 (20 * dd) (72 * dd) σ R D) (hD : yDok D) (h9 : D.n ≤ 9) (Z0 : pZ σ0) (V0 : pcv σ0 cv D) (hh : hi ≤ h) (hh0 : hi ≤ σ0.2.1.1) (K : pK σ0 T h a i nr ins c) (h5 : T.1 i < 5) (hN : ∀ j, j < ynb (T.1 i) → T.2.1 i j < 10000) (hd : dd ≤ 200) (hM : pfr D M) (hM' : M + 1 < 1000000) (hr : σ0.2.1.1 + 4100 < 900000) (hf : yfault T D i = 0) : ∃ τ R', Gg (d + 8) 147 131 [some (.ref s), some (.ref r), some (.ref r), some (.int (yI n)), some (.int (yI k)), some (.ref a), some (.ref nr), l7] [] σ 210 [some (.ref s), some (.ref r), some (.ref r), some (.int (yI n)), some (.int (yI k)), some (.ref a), some (.ref nr), l7] [] τ ∧ (pU lo hi s cv (yI (dd + 1)) 0 σ0 (20 * (dd + 1)) (72 * (dd + 1)) τ R' (ydo T D i) ∧ (yDok (ydo T D i) ∧ ((ydo T D i).n ≤ 9 ∧ (pfr (ydo T D i) (M + 1) ∧ pcv σ0 cv (ydo T D i))))) := by
  have h40 := hD.n40
  have o0 := B.1.ob
  have os := B.1.1.2
  have hs := B.1.1.1
  have z1 : yI dd + 1 = yI (dd + 1) := yI_add
  have hd1 : ¬ yI dd = 200 ∨ True := Or.inr trivial
  have B1 : pU lo hi s cv (yI (dd + 1)) 0 σ0 (20 * dd) (72 * dd) (xwr σ s (.inr (12, [.ref R.lr, .int D.un, .int D.lv, .int D.sh, .int D.ac, .ref R.fr, cv, .int (yI (dd + 1)), .int 0]))) R D := B.strip rfl rfl rfl rfl (fun q => plkp_rfl) rfl
  obtain ⟨σ1, e1⟩ : ∃ σ1, σ1 = xwr σ s (.inr (12, [.ref R.lr, .int D.un, .int D.lv, .int D.sh, .int D.ac, .ref R.fr, cv, .int (yI (dd + 1)), .int 0])) := ⟨_, rfl⟩
  rw [← e1] at B1
  have g1 : ∀ Q, G (d + 8) 147 131 [some (.ref s), some (.ref r), some (.ref r), some (.int (yI n)), some (.int (yI k)), some (.ref a), some (.ref nr), l7] [] σ Q ↔ G (d + 8) 147 142 [some (.ref s), some (.ref r), some (.ref r), some (.int (yI n)), some (.int (yI k)), some (.ref a), some (.ref nr), l7] [] σ1 Q := by
    intro Q
    simp only [s_147_131, s_147_132, s_147_133, s_147_136, s_147_137, s_147_138, s_147_139, s_147_140, s_147_141, o0, os, hs, z1, Int32.le_refl, if_true, e1, hgf_s, hsel_0, hsel_1, hsel_2, hsel_3, hsel_4, hsel_5, hsel_6, hsel_7, hsel_8, hset_0, hset_1, hset_2, hset_3, hset_4, hset_5, hset_6, hset_7, hset_8, hpf_s, hcl_s, hai_s, hpi_0, hpi_1, hln_0, hln_1, List.length_cons, List.length_nil, xwr_1, xwr_2, xnew_1, xnew_n, xnew_s, xnew_z, Nat.reduceLT, ite_true, and_self, hp_8_0, hp_8_1, hn_8_1, hp_8_2, hn_8_2, hp_9_0, hp_9_1, hp_9_2, hp_9_3, hp_9_4, hp_9_5, hn_9_5, hp_9_6, hn_9_6, hp_9_7, hn_9_7, hp_10_0, hp_10_1, hp_10_2, hn_10_2, hp_10_3, hn_10_3, hp_11_0, hp_12_0, hn_12_0, hp_12_1, hp_12_2, hp_12_3, hp_12_4, hp_12_5, hn_12_5, hp_12_6, hn_12_6, hp_12_7, hp_12_8, hp_13_0, hn_13_0, hp_13_1, hp_13_2, hp_13_3, hp_14_0, hn_14_0, hp_14_1, hp_14_2, hp_14_3, xdef_8, xdef_9, xdef_10, xdef_11, xdef_12, xdef_13, xdef_14, Gk_v, Gk_n, xcat_nil, xcat_i, xcat_r, xcat_l, xcat_d, Nat.zero_le, Nat.reduceAdd, Nat.reduceLeDiff, true_and, and_true, ykl_i, ykl_r, ykl_n, ykl_l]
  obtain ⟨⟨-, k1⟩, k2, ⟨-, k3⟩, k4, k5⟩ := B1.cm Z0 hh K
  obtain ⟨S1, Z1, J1, F1⟩ := B1
  have B1 : pU lo hi s cv (yI (dd + 1)) 0 σ0 (20 * dd) (72 * dd) σ1 R D := ⟨S1, Z1, J1, F1⟩
  have nx := F1.2.2.1.2
  have nx' := F1.2.2.1.1
  have o1 := S1.ob
  have os1 := S1.1.2
  obtain ⟨gg, u1, v1⟩ := S1.lrow
  have hlr := S1.lr0
  have r2 : xRd σ1 nr = some (.inl (0, (5, .inl c))) := by rw [yrd_lt k3, k4]
  rcases (by omega : T.1 i = 0 ∨ (T.1 i = 1 ∨ (T.1 i = 2 ∨ (T.1 i = 3 ∨ T.1 i = 4)))) with kk | kk | kk | kk | kk
  · have r1 : xRd σ1 a = some (.inr (8, [.int 0, .ref nr, ins])) := by rw [yrd_lt k1, k2, kk]; rfl
    rw [kk] at hN k5
    have n0 : c 0 = yI (T.2.1 i 0) := k5 0 (by decide)
    have n1 : c 1 = yI (T.2.1 i 1) := k5 1 (by decide)
    have n2 : c 2 = yI (T.2.1 i 2) := k5 2 (by decide)
    have n3 : c 3 = yI (T.2.1 i 3) := k5 3 (by decide)
    have n4 : c 4 = yI (T.2.1 i 4) := k5 4 (by decide)
    unfold yfault at hf
    rw [if_pos kk] at hf
    have q0 : ¬ (D.n ≤ T.2.1 i 0 ∨ D.n ≤ T.2.1 i 1) := fun q => by rw [if_pos q] at hf; cases hf
    rw [if_neg q0] at hf
    have q1 : ¬ (T.2.1 i 1 < T.2.1 i 0 ∨ (255 < T.2.1 i 2 ∨ (255 < T.2.1 i 3 ∨ 255 < T.2.1 i 4))) := fun q => by rw [if_pos q] at hf; cases hf
    obtain ⟨w1, w2, w3, w4⟩ := pcol_of (r := T.2.1 i 2) (g := T.2.1 i 3) (b := T.2.1 i 4) (by omega) (by omega) (by omega)
    have ho : ydo T D i = (ypt (yI (65536 * T.2.1 i 2 + 256 * T.2.1 i 3 + T.2.1 i 4)) (T.2.1 i 1 + 1 - T.2.1 i 0) (T.2.1 i 0) 0 D).2 := by unfold ydo; rw [if_pos kk]
    have m1 : ¬ (3 : Int32) < 0 := by decide
    have m2 : (3 : Nat) ≤ 100000 := by decide
    have hr1 : σ1.2.1.1 < 900000 := by omega
    have hr9 : σ1.2.1.1 < 1000000 := by omega
    have x1 : ∀ e m, xRd (xnew σ1 e m) nr = _ := fun e m => prd_new Z1 k3 r2
    have B2 : pU lo hi s cv (yI (dd + 1)) 0 σ0 (20 * dd + 1) (72 * dd + 3) (xnew σ1 (.inl (0, (3, .inl (upd (upd (upd (fun _ => 0) 0 (yI (T.2.1 i 2))) 1 (yI (T.2.1 i 3))) 2 (yI (T.2.1 i 4)))))) 3) R D := B1.new
    have hC : pC (xnew σ1 (.inl (0, (3, .inl (upd (upd (upd (fun _ => 0) 0 (yI (T.2.1 i 2))) 1 (yI (T.2.1 i 3))) 2 (yI (T.2.1 i 4)))))) 3) σ1.2.1.1 (yI (65536 * T.2.1 i 2 + 256 * T.2.1 i 3 + T.2.1 i 4)) := pC_new hr9 (by rw [w2]; rfl) (by rw [w3]; rfl) (by rw [w4]; rfl)
    obtain ⟨σ2, e2⟩ : ∃ σ2, σ2 = xnew σ1 (.inl (0, (3, .inl (upd (upd (upd (fun _ => 0) 0 (yI (T.2.1 i 2))) 1 (yI (T.2.1 i 3))) 2 (yI (T.2.1 i 4)))))) 3 := ⟨_, rfl⟩
    rw [← e2] at B2 hC
    obtain ⟨τ, R', g3, B3⟩ := m_145 (d := d + 6) B2 hD w1 hC (fm := T.2.1 i 0) (to := T.2.1 i 1) (by omega) (by omega)
    obtain ⟨FF, hF⟩ := ypt_D (c := yI (65536 * T.2.1 i 2 + 256 * T.2.1 i 3 + T.2.1 i 4)) (T.2.1 i 1 + 1 - T.2.1 i 0) (T.2.1 i 0) 0 D
    refine ⟨τ, R', fun Q => (g1 Q).trans ?_, ?_⟩
    · have o2 := B2.1.ob
      simp only [s_147_142, s_147_143, s_147_144, s_147_145, s_147_146, s_147_147, s_147_148, s_147_149, s_147_150, s_147_151, s_147_152, s_147_153, s_147_154, s_147_154i, s_147_155, s_147_156, s_147_157, s_147_158, s_147_159, s_147_160, s_147_160i, s_147_161, s_147_162, s_147_163, s_147_164, s_147_165, s_147_166, s_147_166i, s_147_167, s_147_168, s_147_169, s_147_170, s_147_171, s_147_172, s_147_174, s_147_175, s_147_176, s_147_177, s_147_178, s_147_179, s_147_180, s_147_181, s_147_182, s_147_183, s_147_184, s_147_185, s_147_186, s_147_187, s_147_188, s_147_189, s_147_190, s_147_191, s_147_192, s_147_193, s_147_194, s_147_195, s_147_196, s_147_197, s_147_198, s_147_199, s_147_200, s_147_201, s_147_202, s_147_203, s_147_204, s_147_205, s_147_206, s_147_207, s_147_208, s_147_209, r1, r2, x1, n0, n1, n2, n3, n4, m1, m2, hr1, hr9, ycl_0, ycl_1, ycl_2, ycl_3, yix3_0, yix3_1, yix3_2, yix5_0, yix5_1, yix5_2, yix5_3, yix5_4, ycl_4, pnew_at, pwr_nw, ne_eq, not_true_eq_false, not_false_eq_true, if_true, if_false, hgf_s, hsel_0, hsel_1, hsel_2, hsel_3, hsel_4, hsel_5, hsel_6, hsel_7, hsel_8, hset_0, hset_1, hset_2, hset_3, hset_4, hset_5, hset_6, hset_7, hset_8, hpf_s, hcl_s, hai_s, hpi_0, hpi_1, hln_0, hln_1, List.length_cons, List.length_nil, xwr_1, xwr_2, xnew_1, xnew_n, xnew_s, xnew_z, Nat.reduceLT, ite_true, and_self, hp_8_0, hp_8_1, hn_8_1, hp_8_2, hn_8_2, hp_9_0, hp_9_1, hp_9_2, hp_9_3, hp_9_4, hp_9_5, hn_9_5, hp_9_6, hn_9_6, hp_9_7, hn_9_7, hp_10_0, hp_10_1, hp_10_2, hn_10_2, hp_10_3, hn_10_3, hp_11_0, hp_12_0, hn_12_0, hp_12_1, hp_12_2, hp_12_3, hp_12_4, hp_12_5, hn_12_5, hp_12_6, hn_12_6, hp_12_7, hp_12_8, hp_13_0, hn_13_0, hp_13_1, hp_13_2, hp_13_3, hp_14_0, hn_14_0, hp_14_1, hp_14_2, hp_14_3, xdef_8, xdef_9, xdef_10, xdef_11, xdef_12, xdef_13, xdef_14, Gk_v, Gk_n, xcat_nil, xcat_i, xcat_r, xcat_l, xcat_d, Nat.zero_le, Nat.reduceAdd, Nat.reduceLeDiff, true_and, and_true, ykl_i, ykl_r, ykl_n, ykl_l]
      rw [← e2]
      simp only [s_147_173i, s_147_174, o2, g3 _, hgf_s, hsel_0, hsel_1, hsel_2, hsel_3, hsel_4, hsel_5, hsel_6, hsel_7, hsel_8, hset_0, hset_1, hset_2, hset_3, hset_4, hset_5, hset_6, hset_7, hset_8, hpf_s, hcl_s, hai_s, hpi_0, hpi_1, hln_0, hln_1, List.length_cons, List.length_nil, xwr_1, xwr_2, xnew_1, xnew_n, xnew_s, xnew_z, Nat.reduceLT, ite_true, and_self, hp_8_0, hp_8_1, hn_8_1, hp_8_2, hn_8_2, hp_9_0, hp_9_1, hp_9_2, hp_9_3, hp_9_4, hp_9_5, hn_9_5, hp_9_6, hn_9_6, hp_9_7, hn_9_7, hp_10_0, hp_10_1, hp_10_2, hn_10_2, hp_10_3, hn_10_3, hp_11_0, hp_12_0, hn_12_0, hp_12_1, hp_12_2, hp_12_3, hp_12_4, hp_12_5, hn_12_5, hp_12_6, hn_12_6, hp_12_7, hp_12_8, hp_13_0, hn_13_0, hp_13_1, hp_13_2, hp_13_3, hp_14_0, hn_14_0, hp_14_1, hp_14_2, hp_14_3, xdef_8, xdef_9, xdef_10, xdef_11, xdef_12, xdef_13, xdef_14, Gk_v, Gk_n, xcat_nil, xcat_i, xcat_r, xcat_l, xcat_d, Nat.zero_le, Nat.reduceAdd, Nat.reduceLeDiff, true_and, and_true, ykl_i, ykl_r, ykl_n, ykl_l]
    · rw [ho]
      refine ⟨B3.mono (by omega) (by omega), ?_⟩
      rw [hF]
      exact ⟨yDok_sfm hD, h9, fun q hq => by obtain ⟨j, h1, h2⟩ := hM q hq; exact ⟨j, by omega, h2⟩, V0⟩
  · have r1 : xRd σ1 a = some (.inr (8, [.int 1, .ref nr, ins])) := by rw [yrd_lt k1, k2, kk]; rfl
    rw [kk] at hN k5
    have n0 : c 0 = yI (T.2.1 i 0) := k5 0 (by decide)
    have ho : ydo T D i = yturn D (T.2.1 i 0) := by unfold ydo; rw [if_neg (by omega), if_pos kk]
    obtain ⟨τ, R', g3, B3⟩ := m_146 (d := d + 7) B1 hD h9 hh0 (b := T.2.1 i 0) (hN 0 (by decide)) (by omega)
    refine ⟨τ, R', fun Q => (g1 Q).trans ?_, ?_⟩
    · simp only [s_147_142, s_147_143, s_147_144, s_147_145, s_147_146, s_147_147, s_147_148, s_147_149, s_147_150, s_147_151, s_147_152, s_147_153, s_147_154, s_147_154i, s_147_155, s_147_156, s_147_157, s_147_158, s_147_159, s_147_160, s_147_160i, s_147_161, s_147_162, s_147_163, s_147_164, s_147_165, s_147_166, s_147_166i, s_147_167, s_147_168, s_147_169, s_147_170, s_147_171, s_147_172, s_147_174, s_147_175, s_147_176, s_147_177, s_147_178, s_147_179, s_147_180, s_147_181, s_147_182, s_147_183, s_147_184, s_147_185, s_147_186, s_147_187, s_147_188, s_147_189, s_147_190, s_147_191, s_147_192, s_147_193, s_147_194, s_147_195, s_147_196, s_147_197, s_147_198, s_147_199, s_147_200, s_147_201, s_147_202, s_147_203, s_147_204, s_147_205, s_147_206, s_147_207, s_147_208, s_147_209, r1, r2, n0, o1, g3 _, ycl_0, yix5_0, show ¬ (1 : Int32) = 0 from by decide, ne_eq, not_true_eq_false, not_false_eq_true, if_true, if_false, hgf_s, hsel_0, hsel_1, hsel_2, hsel_3, hsel_4, hsel_5, hsel_6, hsel_7, hsel_8, hset_0, hset_1, hset_2, hset_3, hset_4, hset_5, hset_6, hset_7, hset_8, hpf_s, hcl_s, hai_s, hpi_0, hpi_1, hln_0, hln_1, List.length_cons, List.length_nil, xwr_1, xwr_2, xnew_1, xnew_n, xnew_s, xnew_z, Nat.reduceLT, ite_true, and_self, hp_8_0, hp_8_1, hn_8_1, hp_8_2, hn_8_2, hp_9_0, hp_9_1, hp_9_2, hp_9_3, hp_9_4, hp_9_5, hn_9_5, hp_9_6, hn_9_6, hp_9_7, hn_9_7, hp_10_0, hp_10_1, hp_10_2, hn_10_2, hp_10_3, hn_10_3, hp_11_0, hp_12_0, hn_12_0, hp_12_1, hp_12_2, hp_12_3, hp_12_4, hp_12_5, hn_12_5, hp_12_6, hn_12_6, hp_12_7, hp_12_8, hp_13_0, hn_13_0, hp_13_1, hp_13_2, hp_13_3, hp_14_0, hn_14_0, hp_14_1, hp_14_2, hp_14_3, xdef_8, xdef_9, xdef_10, xdef_11, xdef_12, xdef_13, xdef_14, Gk_v, Gk_n, xcat_nil, xcat_i, xcat_r, xcat_l, xcat_d, Nat.zero_le, Nat.reduceAdd, Nat.reduceLeDiff, true_and, and_true, ykl_i, ykl_r, ykl_n, ykl_l]
    · rw [ho]
      refine ⟨B3.mono (by omega) (by omega), ?_⟩
      unfold yturn
      exact ⟨yDok_sfm hD, h9, fun q hq => by obtain ⟨j, h1, h2⟩ := hM q hq; exact ⟨j, by omega, h2⟩, V0⟩
  · have r1 : xRd σ1 a = some (.inr (8, [.int 2, .ref nr, ins])) := by rw [yrd_lt k1, k2, kk]; rfl
    rw [kk] at hN k5
    have n0 : c 0 = yI (T.2.1 i 0) := k5 0 (by decide)
    have ho : ydo T D i = D.slv (yI (T.2.1 i 0)) := by unfold ydo; rw [if_neg (by omega), if_neg (by omega), if_pos kk]
    unfold yfault at hf
    rw [if_neg (by omega), if_pos kk] at hf
    have q0 : ¬ 255 < T.2.1 i 0 := fun q => by rw [if_pos q] at hf; cases hf
    have B3 : pU lo hi s cv (yI (dd + 1)) 0 σ0 (20 * dd) (72 * dd) (xwr σ1 s (.inr (12, [.ref R.lr, .int D.un, .int (yI (T.2.1 i 0)), .int D.sh, .int D.ac, .ref R.fr, cv, .int (yI (dd + 1)), .int 0]))) R (D.slv (yI (T.2.1 i 0))) := B1.strip (D' := D.slv (yI (T.2.1 i 0))) rfl rfl rfl rfl (fun q => ⟨rfl, rfl, rfl, rfl, rfl, rfl, rfl, rfl, rfl, rfl, rfl⟩) rfl
    refine ⟨xwr σ1 s (.inr (12, [.ref R.lr, .int D.un, .int (yI (T.2.1 i 0)), .int D.sh, .int D.ac, .ref R.fr, cv, .int (yI (dd + 1)), .int 0])), R, fun Q => (g1 Q).trans ?_, by rw [ho]; exact ⟨B3.mono (by omega) (by omega), yDok_slv hD (by omega), h9, fun q hq => by obtain ⟨j, h1, h2⟩ := hM q hq; exact ⟨j, by omega, h2⟩, V0⟩⟩
    simp only [s_147_142, s_147_143, s_147_144, s_147_145, s_147_146, s_147_147, s_147_148, s_147_149, s_147_150, s_147_151, s_147_152, s_147_153, s_147_154, s_147_154i, s_147_155, s_147_156, s_147_157, s_147_158, s_147_159, s_147_160, s_147_160i, s_147_161, s_147_162, s_147_163, s_147_164, s_147_165, s_147_166, s_147_166i, s_147_167, s_147_168, s_147_169, s_147_170, s_147_171, s_147_172, s_147_174, s_147_175, s_147_176, s_147_177, s_147_178, s_147_179, s_147_180, s_147_181, s_147_182, s_147_183, s_147_184, s_147_185, s_147_186, s_147_187, s_147_188, s_147_189, s_147_190, s_147_191, s_147_192, s_147_193, s_147_194, s_147_195, s_147_196, s_147_197, s_147_198, s_147_199, s_147_200, s_147_201, s_147_202, s_147_203, s_147_204, s_147_205, s_147_206, s_147_207, s_147_208, s_147_209, r1, r2, n0, o1, os1, hs, ycl_0, yix5_0, show ¬ (2 : Int32) = 0 from by decide, show ¬ (2 : Int32) = 1 from by decide, ne_eq, not_true_eq_false, not_false_eq_true, if_true, if_false, hgf_s, hsel_0, hsel_1, hsel_2, hsel_3, hsel_4, hsel_5, hsel_6, hsel_7, hsel_8, hset_0, hset_1, hset_2, hset_3, hset_4, hset_5, hset_6, hset_7, hset_8, hpf_s, hcl_s, hai_s, hpi_0, hpi_1, hln_0, hln_1, List.length_cons, List.length_nil, xwr_1, xwr_2, xnew_1, xnew_n, xnew_s, xnew_z, Nat.reduceLT, ite_true, and_self, hp_8_0, hp_8_1, hn_8_1, hp_8_2, hn_8_2, hp_9_0, hp_9_1, hp_9_2, hp_9_3, hp_9_4, hp_9_5, hn_9_5, hp_9_6, hn_9_6, hp_9_7, hn_9_7, hp_10_0, hp_10_1, hp_10_2, hn_10_2, hp_10_3, hn_10_3, hp_11_0, hp_12_0, hn_12_0, hp_12_1, hp_12_2, hp_12_3, hp_12_4, hp_12_5, hn_12_5, hp_12_6, hn_12_6, hp_12_7, hp_12_8, hp_13_0, hn_13_0, hp_13_1, hp_13_2, hp_13_3, hp_14_0, hn_14_0, hp_14_1, hp_14_2, hp_14_3, xdef_8, xdef_9, xdef_10, xdef_11, xdef_12, xdef_13, xdef_14, Gk_v, Gk_n, xcat_nil, xcat_i, xcat_r, xcat_l, xcat_d, Nat.zero_le, Nat.reduceAdd, Nat.reduceLeDiff, true_and, and_true, ykl_i, ykl_r, ykl_n, ykl_l]
  · have r1 : xRd σ1 a = some (.inr (8, [.int 3, .ref nr, ins])) := by rw [yrd_lt k1, k2, kk]; rfl
    have ho : ydo T D i = yshowD D := by unfold ydo; rw [if_neg (by omega), if_neg (by omega), if_neg (by omega), if_pos kk]
    obtain ⟨τ, R', g3, S3, Z3, J3, F3⟩ := m_144 (d := d) S1 hD h9 Z1 J1 (pcv_no V0 (pF_co F1 Z0)) (by omega) hM hM' (by omega)
    obtain ⟨⟨a1, a2, a3, a4⟩, a5⟩ := pshow_k hM
    refine ⟨τ, R', fun Q => (g1 Q).trans ?_, ?_⟩
    · simp only [s_147_142, s_147_143, s_147_144, s_147_145, s_147_146, s_147_147, s_147_148, s_147_149, s_147_150, s_147_151, s_147_152, s_147_153, s_147_154, s_147_154i, s_147_155, s_147_156, s_147_157, s_147_158, s_147_159, s_147_160, s_147_160i, s_147_161, s_147_162, s_147_163, s_147_164, s_147_165, s_147_166, s_147_166i, s_147_167, s_147_168, s_147_169, s_147_170, s_147_171, s_147_172, s_147_174, s_147_175, s_147_176, s_147_177, s_147_178, s_147_179, s_147_180, s_147_181, s_147_182, s_147_183, s_147_184, s_147_185, s_147_186, s_147_187, s_147_188, s_147_189, s_147_190, s_147_191, s_147_192, s_147_193, s_147_194, s_147_195, s_147_196, s_147_197, s_147_198, s_147_199, s_147_200, s_147_201, s_147_202, s_147_203, s_147_204, s_147_205, s_147_206, s_147_207, s_147_208, s_147_209, r1, o1, g3 _, show ¬ (3 : Int32) = 0 from by decide, show ¬ (3 : Int32) = 1 from by decide, show ¬ (3 : Int32) = 2 from by decide, ne_eq, not_true_eq_false, not_false_eq_true, if_true, if_false, hgf_s, hsel_0, hsel_1, hsel_2, hsel_3, hsel_4, hsel_5, hsel_6, hsel_7, hsel_8, hset_0, hset_1, hset_2, hset_3, hset_4, hset_5, hset_6, hset_7, hset_8, hpf_s, hcl_s, hai_s, hpi_0, hpi_1, hln_0, hln_1, List.length_cons, List.length_nil, xwr_1, xwr_2, xnew_1, xnew_n, xnew_s, xnew_z, Nat.reduceLT, ite_true, and_self, hp_8_0, hp_8_1, hn_8_1, hp_8_2, hn_8_2, hp_9_0, hp_9_1, hp_9_2, hp_9_3, hp_9_4, hp_9_5, hn_9_5, hp_9_6, hn_9_6, hp_9_7, hn_9_7, hp_10_0, hp_10_1, hp_10_2, hn_10_2, hp_10_3, hn_10_3, hp_11_0, hp_12_0, hn_12_0, hp_12_1, hp_12_2, hp_12_3, hp_12_4, hp_12_5, hn_12_5, hp_12_6, hn_12_6, hp_12_7, hp_12_8, hp_13_0, hn_13_0, hp_13_1, hp_13_2, hp_13_3, hp_14_0, hn_14_0, hp_14_1, hp_14_2, hp_14_3, xdef_8, xdef_9, xdef_10, xdef_11, xdef_12, xdef_13, xdef_14, Gk_v, Gk_n, xcat_nil, xcat_i, xcat_r, xcat_l, xcat_d, Nat.zero_le, Nat.reduceAdd, Nat.reduceLeDiff, true_and, and_true, ykl_i, ykl_r, ykl_n, ykl_l]
    · rw [ho]
      exact ⟨⟨S3, Z3, J3, (pF_then F1 Z0 F3).mono (fun _ _ q => q) (by omega) (by omega)⟩, pshow_ok hD, by rw [a1]; exact h9, a5, pcv_to V0 a2 a3⟩
  · have r1 : xRd σ1 a = some (.inr (8, [.int 4, .ref nr, ins])) := by rw [yrd_lt k1, k2, kk]; rfl
    rw [kk] at hN k5
    have n0 : c 0 = yI (T.2.1 i 0) := k5 0 (by decide)
    have ho : ydo T D i = D.sbw (ybs D.bw (T.2.1 i 0) true) := by unfold ydo; rw [if_neg (by omega), if_neg (by omega), if_neg (by omega), if_neg (by omega)]
    unfold yfault at hf
    rw [if_neg (by omega), if_neg (by omega), if_pos kk] at hf
    have q0 : T.2.1 i 0 < D.n := by
      by_cases q : D.n ≤ T.2.1 i 0
      · rw [if_pos q] at hf; cases hf
      · omega
    have B3 := B1.sbw hD q0 (b := true)
    have c1 : yix (yI (T.2.1 i 0)) D.n := yix_I (by omega) (by omega)
    have c2 : (yI (T.2.1 i 0)).toNatClampNeg = T.2.1 i 0 := yI_clamp (by omega)
    have lo1 := S1.lm0 q0
    have lr1 := S1.lm1 q0
    have lc1 := (S1.2.2.1 _ q0).2
    have hb1 : ybo 1 := ybo_1
    refine ⟨xwr σ1 (R.lm (T.2.1 i 0)) (plamp (D.kd (T.2.1 i 0)) (D.pd (T.2.1 i 0)) (yb true) (D.fr (T.2.1 i 0)) (D.og (T.2.1 i 0)) (R.tk (T.2.1 i 0)) (R.du (T.2.1 i 0)) (R.fm (T.2.1 i 0))), R, fun Q => (g1 Q).trans ?_, by rw [ho]; exact ⟨B3.mono (by omega) (by omega), yDok_sbw hD (ybs_lt hD.bwn q0), h9, fun q hq => by obtain ⟨j, h1, h2⟩ := hM q hq; exact ⟨j, by omega, h2⟩, V0⟩⟩
    simp only [s_147_142, s_147_143, s_147_144, s_147_145, s_147_146, s_147_147, s_147_148, s_147_149, s_147_150, s_147_151, s_147_152, s_147_153, s_147_154, s_147_154i, s_147_155, s_147_156, s_147_157, s_147_158, s_147_159, s_147_160, s_147_160i, s_147_161, s_147_162, s_147_163, s_147_164, s_147_165, s_147_166, s_147_166i, s_147_167, s_147_168, s_147_169, s_147_170, s_147_171, s_147_172, s_147_174, s_147_175, s_147_176, s_147_177, s_147_178, s_147_179, s_147_180, s_147_181, s_147_182, s_147_183, s_147_184, s_147_185, s_147_186, s_147_187, s_147_188, s_147_189, s_147_190, s_147_191, s_147_192, s_147_193, s_147_194, s_147_195, s_147_196, s_147_197, s_147_198, s_147_199, s_147_200, s_147_201, s_147_202, s_147_203, s_147_204, s_147_205, s_147_206, s_147_207, s_147_208, s_147_209, r1, r2, n0, o1, u1, v1 _ q0, c1, c2, lo1, lr1, lc1, hb1, haa_t hlr (show 4 ≤ 6 ∧ 6 ≤ 8 by decide), hop_s, plamp, show yb true = 1 from rfl, ycl_0, yix5_0, show ¬ (4 : Int32) = 0 from by decide, show ¬ (4 : Int32) = 1 from by decide, show ¬ (4 : Int32) = 2 from by decide, show ¬ (4 : Int32) = 3 from by decide, ne_eq, not_true_eq_false, not_false_eq_true, if_true, if_false, hgf_s, hsel_0, hsel_1, hsel_2, hsel_3, hsel_4, hsel_5, hsel_6, hsel_7, hsel_8, hset_0, hset_1, hset_2, hset_3, hset_4, hset_5, hset_6, hset_7, hset_8, hpf_s, hcl_s, hai_s, hpi_0, hpi_1, hln_0, hln_1, List.length_cons, List.length_nil, xwr_1, xwr_2, xnew_1, xnew_n, xnew_s, xnew_z, Nat.reduceLT, ite_true, and_self, hp_8_0, hp_8_1, hn_8_1, hp_8_2, hn_8_2, hp_9_0, hp_9_1, hp_9_2, hp_9_3, hp_9_4, hp_9_5, hn_9_5, hp_9_6, hn_9_6, hp_9_7, hn_9_7, hp_10_0, hp_10_1, hp_10_2, hn_10_2, hp_10_3, hn_10_3, hp_11_0, hp_12_0, hn_12_0, hp_12_1, hp_12_2, hp_12_3, hp_12_4, hp_12_5, hn_12_5, hp_12_6, hn_12_6, hp_12_7, hp_12_8, hp_13_0, hn_13_0, hp_13_1, hp_13_2, hp_13_3, hp_14_0, hn_14_0, hp_14_1, hp_14_2, hp_14_3, xdef_8, xdef_9, xdef_10, xdef_11, xdef_12, xdef_13, xdef_14, Gk_v, Gk_n, xcat_nil, xcat_i, xcat_r, xcat_l, xcat_d, Nat.zero_le, Nat.reduceAdd, Nat.reduceLeDiff, true_and, and_true, ykl_i, ykl_r, ykl_n, ykl_l]
end

/-! ===== scripts by chance: the other numbers; the command is written ===== -/
section
variable {d : Nat} {b r c x a fm M dp kd : Nat} {σ0 σs : xS} {t0 : yT} {l5 l9 : Option Value} {y6 : Int32}
variable {D : yD} {k : Nat} {E : Nat → yD} {s0 s1 : Option yD} {n0 : Nat} {B : Nat → Nat} {eo en : Int32}
theorem l_208d {l : List Nat} (X0 : pX0 b r σ0 t0) (ha : σ0.2.1.1 ≤ a ∧ a + 1 < 900000) (hs : σs.2.1.1 ≤ a) : ∀ m i (f : Nat → Int32) (σ : xS), i + m = 5 → pX b r σ0 t0 c x σ l → pF (pXp b r) 2 8 σs σ → σ.1 a = some (.inr (8, [.int (yI kd), .ref (a + 1), .null])) → σ.1 (a + 1) = some (pints 5 f) → ∃ τ f', (∀ Q, G (d + 2) 208 96 [some (.ref 0), some (.ref b), some (.ref r), some (.int (yI M)), some (.int (yI dp)), l5, some (.int y6), some (.ref a), some (.int (yI fm)), some (.int (yI i))] [] σ Q ↔ G (d + 2) 208 113 [some (.ref 0), some (.ref b), some (.ref r), some (.int (yI M)), some (.int (yI dp)), l5, some (.int y6), some (.ref a), some (.int (yI fm)), some (.int 5)] [] τ Q) ∧ ((pX b r σ0 t0 c x τ l ∧ pF (pXp b r) 2 8 σs τ) ∧ ((τ.1 a = some (.inr (8, [.int (yI kd), .ref (a + 1), .null])) ∧ τ.1 (a + 1) = some (pints 5 f')) ∧ (((∀ j, j < i → f' j = f j) ∧ ∀ j, i ≤ j → j < 5 → ∃ v, v < 257 ∧ f' j = yI v) ∧ τ.2.1.1 = σ.2.1.1))) := by
  have hlo := X0.lo
  have r9 : a < 1000000 := by omega
  have r9' : a + 1 < 1000000 := by omega
  intro m
  induction m with
  | zero =>
    intro i f σ hi X F oa on
    have ei : i = 5 := by omega
    subst ei
    refine ⟨σ, f, fun Q => ?_, ⟨X, F⟩, ⟨oa, on⟩, ⟨fun _ _ => rfl, fun j g1 g2 => by omega⟩, rfl⟩
    have z : yI 5 = 5 := rfl
    rw [s_208_96]
    simp only [s_208_97, s_208_98, z, Int32.le_refl, if_true]
  | succ m ih =>
    intro i f σ hi X F oa on
    have z1 : ¬ (5 : Int32) ≤ yI i := fun h => absurd ((yI_le (n := 5) (by decide) (by omega)).mp h) (by omega)
    have z4 : yI i + 1 = yI (i + 1) := yI_add
    have i1 : yix (yI i) 5 := yix_I (by omega) (by omega)
    have i2 : (yI i).toNatClampNeg = i := yI_clamp (by omega)
    obtain ⟨v, σ1, hv, g, ⟨X1, F1⟩, q1, e1⟩ := X.go (d := d + 1) X0 (m := 20) (by decide) (by decide)
    have g' : Ra (d + 1) 131 [.ref r, .int 20] σ (.inl (some (.int (yI v)))) σ1 := g
    have F1' : pF (pXp b r) 2 8 σs σ1 := pF.trans F F1 (fun a _ q => q.elim id (fun q => Or.inr (Or.inr (Or.inr q))))
    have oa1 : σ1.1 a = some (.inr (8, [.int (yI kd), .ref (a + 1), .null])) := by rw [q1 _ (by omega), oa]
    have on1 : σ1.1 (a + 1) = some (pints 5 f) := by rw [q1 _ (by omega), on]
    have r1 : xRd σ a = some (.inr (8, [.int (yI kd), .ref (a + 1), .null])) := by rw [yrd_lt r9, oa]
    obtain ⟨fo, orr⟩ := X.or
    obtain ⟨fo1, orr1⟩ := X1.or
    have key : ∃ w σ2, w < 257 ∧ ((∀ Q, G (d + 2) 208 97 [some (.ref 0), some (.ref b), some (.ref r), some (.int (yI M)), some (.int (yI dp)), l5, some (.int y6), some (.ref a), some (.int (yI fm)), some (.int (yI i))] [.int (yI i)] σ Q ↔ G (d + 2) 208 96 [some (.ref 0), some (.ref b), some (.ref r), some (.int (yI M)), some (.int (yI dp)), l5, some (.int y6), some (.ref a), some (.int (yI fm)), some (.int (yI (i + 1)))] [] (xwr σ2 (a + 1) (pints 5 (upd f i (yI w)))) Q) ∧ ((pX b r σ0 t0 c x σ2 l ∧ pF (pXp b r) 2 8 σs σ2) ∧ ((σ2.1 a = some (.inr (8, [.int (yI kd), .ref (a + 1), .null])) ∧ σ2.1 (a + 1) = some (pints 5 f)) ∧ σ2.2.1.1 = σ.2.1.1))) := by
      by_cases hv0 : v = 0
      · subst hv0
        have z : yI 0 = 0 := rfl
        refine ⟨256, σ1, by decide, fun Q => ?_, ⟨X1, F1'⟩, ⟨oa1, on1⟩, by rw [e1]⟩
        have z6 : yI 256 = 256 := rfl
        simp only [s_208_97, s_208_98, s_208_99, s_208_100, s_208_101, s_208_102, s_208_103, s_208_104, s_208_105, s_208_106, s_208_107, s_208_108, s_208_109, s_208_110, s_208_111, s_208_112, r1, orr, g' _, on1, r9', z1, z4, i1, i2, z, z6, ne_eq, not_true_eq_false, if_false, true_and, hcl_s, hgf_s, hsel_0, hsel_1, hsel_2, hsel_3, hsel_4, hsel_5, hsel_6, hsel_7, hsel_8, hset_0, hset_1, hset_2, hset_3, hset_4, hset_5, hset_6, hset_7, hset_8, hpf_s, hcl_s, hai_s, hpi_0, hpi_1, hln_0, hln_1, List.length_cons, List.length_nil, xwr_1, xwr_2, xnew_1, xnew_n, xnew_s, xnew_z, Nat.reduceLT, ite_true, and_self, hp_8_0, hp_8_1, hn_8_1, hp_8_2, hn_8_2, hp_9_0, hp_9_1, hp_9_2, hp_9_3, hp_9_4, hp_9_5, hn_9_5, hp_9_6, hn_9_6, hp_9_7, hn_9_7, hp_10_0, hp_10_1, hp_10_2, hn_10_2, hp_10_3, hn_10_3, hp_11_0, hp_12_0, hn_12_0, hp_12_1, hp_12_2, hp_12_3, hp_12_4, hp_12_5, hn_12_5, hp_12_6, hn_12_6, hp_12_7, hp_12_8, hp_13_0, hn_13_0, hp_13_1, hp_13_2, hp_13_3, hp_14_0, hn_14_0, hp_14_1, hp_14_2, hp_14_3, xdef_8, xdef_9, xdef_10, xdef_11, xdef_12, xdef_13, xdef_14, Gk_v, Gk_n, xcat_nil, xcat_i, xcat_r, xcat_l, xcat_d, Nat.zero_le, Nat.reduceAdd, Nat.reduceLeDiff, true_and, and_true, ykl_i, ykl_r, ykl_n, ykl_l]
      · have z : ¬ yI v = 0 := fun e => hv0 ((yI_inj (m := 0) (by omega) (by decide)).mp e)
        obtain ⟨w, σ2, hw, g2, ⟨X2, F2⟩, q2, e2⟩ := X1.ch (d := d) X0
        have F2' : pF (pXp b r) 2 8 σs σ2 := pF.trans F1' F2 (fun a _ q => q.elim id (fun q => Or.inr (Or.inr (Or.inr q))))
        have on2 : σ2.1 (a + 1) = some (pints 5 f) := by rw [q2 _ (by omega), on1]
        refine ⟨w, σ2, by omega, fun Q => ?_, ⟨X2, F2'⟩, ⟨by rw [q2 _ (by omega), oa1], on2⟩, by rw [e2, e1]⟩
        simp only [s_208_97, s_208_98, s_208_99, s_208_100, s_208_101, s_208_102, s_208_103, s_208_104, s_208_105, s_208_106, s_208_107, s_208_108, s_208_109, s_208_110, s_208_111, s_208_112, r1, orr, g' _, g2 _, on2, r9', z1, z4, i1, i2, z, ne_eq, not_false_eq_true, if_true, if_false, true_and, hcl_s, hgf_s, hsel_0, hsel_1, hsel_2, hsel_3, hsel_4, hsel_5, hsel_6, hsel_7, hsel_8, hset_0, hset_1, hset_2, hset_3, hset_4, hset_5, hset_6, hset_7, hset_8, hpf_s, hcl_s, hai_s, hpi_0, hpi_1, hln_0, hln_1, List.length_cons, List.length_nil, xwr_1, xwr_2, xnew_1, xnew_n, xnew_s, xnew_z, Nat.reduceLT, ite_true, and_self, hp_8_0, hp_8_1, hn_8_1, hp_8_2, hn_8_2, hp_9_0, hp_9_1, hp_9_2, hp_9_3, hp_9_4, hp_9_5, hn_9_5, hp_9_6, hn_9_6, hp_9_7, hn_9_7, hp_10_0, hp_10_1, hp_10_2, hn_10_2, hp_10_3, hn_10_3, hp_11_0, hp_12_0, hn_12_0, hp_12_1, hp_12_2, hp_12_3, hp_12_4, hp_12_5, hn_12_5, hp_12_6, hn_12_6, hp_12_7, hp_12_8, hp_13_0, hn_13_0, hp_13_1, hp_13_2, hp_13_3, hp_14_0, hn_14_0, hp_14_1, hp_14_2, hp_14_3, xdef_8, xdef_9, xdef_10, xdef_11, xdef_12, xdef_13, xdef_14, Gk_v, Gk_n, xcat_nil, xcat_i, xcat_r, xcat_l, xcat_d, Nat.zero_le, Nat.reduceAdd, Nat.reduceLeDiff, true_and, and_true, ykl_i, ykl_r, ykl_n, ykl_l]
    obtain ⟨w, σ2, hw, st, ⟨X2, F2⟩, ⟨oa2, on2⟩, e2⟩ := key
    have X3 := X2.own X0 (by omega) on2 (e' := pints 5 (upd f i (yI w)))
    have F3 := pF_hi F2 (X2.Z X0) on2 (by omega) (e' := pints 5 (upd f i (yI w)))
    obtain ⟨τ, f', st', h1, h2, ⟨h3, h4⟩, h5⟩ := ih (i + 1) (upd f i (yI w)) _ (by omega) X3 F3 (by rw [xwr_1, if_neg (by omega), oa2]) pwr_at
    refine ⟨τ, f', fun Q => ?_, h1, h2, ⟨fun j hj => ?_, fun j g1 g2 => ?_⟩, by rw [h5]; exact e2⟩
    · rw [s_208_96]
      exact (st Q).trans (st' Q)
    · rw [h3 j (by omega), yupd_ne (by omega)]
    · by_cases hj : j = i
      · subst hj
        exact ⟨w, hw, by rw [h3 j (by omega), yupd_same]⟩
      · exact h4 j (by omega) g2
/-- the word, and how many numbers -/
theorem l_208e {σ : xS} {l : List Nat} {f : Nat → Int32} {v : Nat → Nat} (X0 : pX0 b r σ0 t0) (C : yCI t0 D k E s0 s1 n0 B eo en) (X : pX b r σ0 t0 c x σ l) (ha : σ0.2.1.1 ≤ a ∧ a + 1 < 900000) (oa : σ.1 a = some (.inr (8, [.int (yI kd), .ref (a + 1), .null]))) (on : σ.1 (a + 1) = some (pints 5 f)) (hkd : kd < 6) (hv : ∀ j, j < 5 → f j = yI (v j) ∧ v j < 10000) (hl : l.length ≤ 550) : ∃ τ, (∀ Q, G (d + 6) 208 113 [some (.ref 0), some (.ref b), some (.ref r), some (.int (yI M)), some (.int (yI dp)), l5, some (.int y6), some (.ref a), some (.int (yI fm)), l9] [] σ Q ↔ G (d + 6) 208 134 [some (.ref 0), some (.ref b), some (.ref r), some (.int (yI M)), some (.int (yI dp)), l5, some (.int y6), some (.ref a), some (.int (yI fm)), l9] [] τ Q) ∧ (pX b r σ0 t0 c x τ (l ++ (ptw (ykw kd) ++ pnm v 0 (ynb kd))) ∧ pF (pXp b r) 0 0 σ τ) := by
  have hlo := X0.lo
  have r9 : a < 1000000 := by omega
  have r9' : a + 1 < 1000000 := by omega
  have hw : ykw kd < 14 := (by decide : ∀ k, k < 6 → ykw k < 14) kd hkd
  have hwl : ywl (ykw kd) ≤ 7 := (by decide : ∀ k, k < 6 → ywl (ykw k) ≤ 7) kd hkd
  have hnb : ynb kd ≤ 5 := (by decide : ∀ k, k < 6 → ynb k ≤ 5) kd hkd
  have W : prw b r σ (a + 1) 5 f := ⟨⟨r9', pXp_no (by omega) (by omega) (by omega)⟩, on⟩
  obtain ⟨τ, g, X', F'⟩ := m_205 (d := d) (v := v) X0 C X (pTx_t (b := b) (r := r) (σ := σ) (i := ykw kd) (by omega)) hnb (by decide) (fun j hj => hv j (by omega)) W (by rw [ptw_len]; omega)
  refine ⟨τ, fun Q => ?_, X', F'⟩
  have R5 : xRd σ 1000005 = some (.inl (9, ((xrows 2).length, .inr (.inr (.inr (.inr (fun j => ((xrows 2)[j]?).map (fun z => 1000100 + z)))))))) := xRd_rows (i := 2) (by decide)
  have hrow : (fun j => ((xrows 2)[j]?).map (fun z => 1000100 + z)) (yI kd).toNatClampNeg = some (1000100 + ykw kd) := by
    have all : ∀ k, k < 6 → ((xrows 2)[(yI k).toNatClampNeg]?).map (fun z => 1000100 + z) = some (1000100 + ykw k) := by decide
    exact all kd hkd
  have hix : yix (yI kd) (xrows 2).length := yix_I (show kd < 6 from hkd) (by decide)
  have r1 : xRd σ a = some (.inr (8, [.int (yI kd), .ref (a + 1), .null])) := by rw [yrd_lt r9, oa]
  have i5 : 1000003 ≤ 1000005 ∧ 1000005 < 1000006 := by decide
  obtain ⟨gw, hgw⟩ : ∃ gw : Nat → Option Nat, gw = fun j => ((xrows 2)[j]?).map (fun z => 1000100 + z) := ⟨_, rfl⟩
  rw [← hgw] at R5 hrow
  have hh : ∀ F : Value → Prop, haa 1000005 (yI kd) (some (.inl (9, ((xrows 2).length, .inr (.inr (.inr (.inr gw))))))) F ↔ F (.ref (1000100 + ykw kd)) := fun F => haa_9 i5 hix hrow
  by_cases k0 : kd = 0
  · subst k0
    have z : yI 0 = 0 := rfl
    rw [z] at hh
    have g' : Ra (d + 5) 205 [.ref 0, .ref b, .ref (1000100 + ykw 0), .int 5, .ref (a + 1)] σ (.inl none) τ := g
    simp only [s_208_113, s_208_114, s_208_115, s_208_116, s_208_117, s_208_118, s_208_119, s_208_120, s_208_121, s_208_122, s_208_123, s_208_124, s_208_125, s_208_126, s_208_127, s_208_128, s_208_129, s_208_130, s_208_131, s_208_132, s_208_133, r1, R5, hh, g' _, z, ne_eq, not_true_eq_false, if_false, true_and, hcl_s, hgf_s, hsel_0, hsel_1, hsel_2, hsel_3, hsel_4, hsel_5, hsel_6, hsel_7, hsel_8, hset_0, hset_1, hset_2, hset_3, hset_4, hset_5, hset_6, hset_7, hset_8, hpf_s, hcl_s, hai_s, hpi_0, hpi_1, hln_0, hln_1, List.length_cons, List.length_nil, xwr_1, xwr_2, xnew_1, xnew_n, xnew_s, xnew_z, Nat.reduceLT, ite_true, and_self, hp_8_0, hp_8_1, hn_8_1, hp_8_2, hn_8_2, hp_9_0, hp_9_1, hp_9_2, hp_9_3, hp_9_4, hp_9_5, hn_9_5, hp_9_6, hn_9_6, hp_9_7, hn_9_7, hp_10_0, hp_10_1, hp_10_2, hn_10_2, hp_10_3, hn_10_3, hp_11_0, hp_12_0, hn_12_0, hp_12_1, hp_12_2, hp_12_3, hp_12_4, hp_12_5, hn_12_5, hp_12_6, hn_12_6, hp_12_7, hp_12_8, hp_13_0, hn_13_0, hp_13_1, hp_13_2, hp_13_3, hp_14_0, hn_14_0, hp_14_1, hp_14_2, hp_14_3, xdef_8, xdef_9, xdef_10, xdef_11, xdef_12, xdef_13, xdef_14, Gk_v, Gk_n, xcat_nil, xcat_i, xcat_r, xcat_l, xcat_d, Nat.zero_le, Nat.reduceAdd, Nat.reduceLeDiff, true_and, and_true, ykl_i, ykl_r, ykl_n, ykl_l]
  · have z : ¬ yI kd = 0 := fun e => k0 ((yI_inj (m := 0) (by omega) (by decide)).mp e)
    by_cases k3 : kd = 3
    · subst k3
      have z3 : yI 3 = 3 := rfl
      have g' : Ra (d + 5) 205 [.ref 0, .ref b, .ref (1000100 + ykw 3), .int 0, .ref (a + 1)] σ (.inl none) τ := g
      rw [z3] at z hh
      simp only [s_208_113, s_208_114, s_208_115, s_208_116, s_208_117, s_208_118, s_208_119, s_208_120, s_208_121, s_208_122, s_208_123, s_208_124, s_208_125, s_208_126, s_208_127, s_208_128, s_208_129, s_208_130, s_208_131, s_208_132, s_208_133, r1, R5, hh, g' _, z, z3, ne_eq, not_true_eq_false, not_false_eq_true, if_true, if_false, true_and, hcl_s, hgf_s, hsel_0, hsel_1, hsel_2, hsel_3, hsel_4, hsel_5, hsel_6, hsel_7, hsel_8, hset_0, hset_1, hset_2, hset_3, hset_4, hset_5, hset_6, hset_7, hset_8, hpf_s, hcl_s, hai_s, hpi_0, hpi_1, hln_0, hln_1, List.length_cons, List.length_nil, xwr_1, xwr_2, xnew_1, xnew_n, xnew_s, xnew_z, Nat.reduceLT, ite_true, and_self, hp_8_0, hp_8_1, hn_8_1, hp_8_2, hn_8_2, hp_9_0, hp_9_1, hp_9_2, hp_9_3, hp_9_4, hp_9_5, hn_9_5, hp_9_6, hn_9_6, hp_9_7, hn_9_7, hp_10_0, hp_10_1, hp_10_2, hn_10_2, hp_10_3, hn_10_3, hp_11_0, hp_12_0, hn_12_0, hp_12_1, hp_12_2, hp_12_3, hp_12_4, hp_12_5, hn_12_5, hp_12_6, hn_12_6, hp_12_7, hp_12_8, hp_13_0, hn_13_0, hp_13_1, hp_13_2, hp_13_3, hp_14_0, hn_14_0, hp_14_1, hp_14_2, hp_14_3, xdef_8, xdef_9, xdef_10, xdef_11, xdef_12, xdef_13, xdef_14, Gk_v, Gk_n, xcat_nil, xcat_i, xcat_r, xcat_l, xcat_d, Nat.zero_le, Nat.reduceAdd, Nat.reduceLeDiff, true_and, and_true, ykl_i, ykl_r, ykl_n, ykl_l]
    · have z3 : ¬ yI kd = 3 := fun e => k3 ((yI_inj (m := 3) (by omega) (by decide)).mp e)
      have e1 : ynb kd = 1 := by unfold ynb; rw [if_neg k0, if_neg k3]
      rw [e1] at g
      have g' : Ra (d + 5) 205 [.ref 0, .ref b, .ref (1000100 + ykw kd), .int 1, .ref (a + 1)] σ (.inl none) τ := g
      simp only [s_208_113, s_208_114, s_208_115, s_208_116, s_208_117, s_208_118, s_208_119, s_208_120, s_208_121, s_208_122, s_208_123, s_208_124, s_208_125, s_208_126, s_208_127, s_208_128, s_208_129, s_208_130, s_208_131, s_208_132, s_208_133, r1, R5, hh, g' _, z, z3, ne_eq, not_false_eq_true, if_true, true_and, hcl_s, hgf_s, hsel_0, hsel_1, hsel_2, hsel_3, hsel_4, hsel_5, hsel_6, hsel_7, hsel_8, hset_0, hset_1, hset_2, hset_3, hset_4, hset_5, hset_6, hset_7, hset_8, hpf_s, hcl_s, hai_s, hpi_0, hpi_1, hln_0, hln_1, List.length_cons, List.length_nil, xwr_1, xwr_2, xnew_1, xnew_n, xnew_s, xnew_z, Nat.reduceLT, ite_true, and_self, hp_8_0, hp_8_1, hn_8_1, hp_8_2, hn_8_2, hp_9_0, hp_9_1, hp_9_2, hp_9_3, hp_9_4, hp_9_5, hn_9_5, hp_9_6, hn_9_6, hp_9_7, hn_9_7, hp_10_0, hp_10_1, hp_10_2, hn_10_2, hp_10_3, hn_10_3, hp_11_0, hp_12_0, hn_12_0, hp_12_1, hp_12_2, hp_12_3, hp_12_4, hp_12_5, hn_12_5, hp_12_6, hn_12_6, hp_12_7, hp_12_8, hp_13_0, hn_13_0, hp_13_1, hp_13_2, hp_13_3, hp_14_0, hn_14_0, hp_14_1, hp_14_2, hp_14_3, xdef_8, xdef_9, xdef_10, xdef_11, xdef_12, xdef_13, xdef_14, Gk_v, Gk_n, xcat_nil, xcat_i, xcat_r, xcat_l, xcat_d, Nat.zero_le, Nat.reduceAdd, Nat.reduceLeDiff, true_and, and_true, ykl_i, ykl_r, ykl_n, ykl_l]
end

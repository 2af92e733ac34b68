/-! ===== the law's beginning: the first calls, a strip by chance ===== -/
section
variable {d : Nat} {σ τ σ3 : xS} {E : Nat → yD} {B : Nat → Nat} {i2 : Int32} {Q : xR → xS → Prop} {l6 l7 l8 l9 l10 l11 l12 l13 l14 l15 l16 l17 l18 l19 l20 l21 l22 l23 l24 l25 l26 l27 l28 l29 l30 l31 l32 : Option Value}
theorem l_244_b1 (I3 : pI σ3 (yD0 1 1) 0 E none none 0 B (-1) 0) (P3 : pc0 σ3) (n3 : σ3.2.1.1 = 162) : ∃ τ E', (pI τ (yD0 1 1) 0 E' none none 0 B (-1) 0 ∧ pc0 τ) ∧ (pFb 295 912 σ3 τ ∧ ∀ Q, G (d + 60) 244 27 [some (.ref 1000000), some (.int 1), some (.int i2), some (.ref 0), some (.ref 160), some (.ref 161), l6, l7, l8, l9, l10, l11, l12, l13, l14, l15, l16, l17, l18, l19, l20, l21, l22, l23, l24, l25, l26, l27, l28, l29, l30, l31, l32] [] σ3 Q ↔ G (d + 60) 244 101 [some (.ref 1000000), some (.int 1), some (.int i2), some (.ref 0), some (.ref 160), some (.ref 161), l6, l7, l8, l9, l10, l11, l12, l13, l14, l15, l16, l17, l18, l19, l20, l21, l22, l23, l24, l25, l26, l27, l28, l29, l30, l31, l32] [] τ Q) := by
  have Z3 := I3.Z
  -- a strip
  have F4 : pF pno 1 9 σ3 (xnew σ3 (.inr (12, xdef 12)) 9) := pF_new
  have Z4 := pZ_new (e := .inr (12, xdef 12)) (m := 9) Z3
  have s4 : (xnew σ3 (.inr (12, xdef 12)) 9).1 162 = some (.inr (12, xdef 12)) := by rw [xnew_1, if_pos n3.symm]
  have x4 : (xnew σ3 (.inr (12, xdef 12)) 9).2.1.1 = 163 := by rw [xnew_n, n3]
  have e4' : xnew σ3 (.inr (12, [.null, .int 0, .int 0, .int 0, .int 0, .null, .null, .int 0, .int 0])) 9 = xnew σ3 (.inr (12, xdef 12)) 9 := by rw [xdef_12]
  obtain ⟨σ4, e4⟩ : ∃ σ4, σ4 = xnew σ3 (.inr (12, xdef 12)) 9 := ⟨_, rfl⟩
  rw [← e4] at F4 Z4 s4 x4 e4'
  obtain ⟨τ5, R5, g5, F5, Z5, S5, ⟨q1, q2⟩, q3, q4⟩ := m_132 (d := d + 58) (s := 162) pI0_ok (by decide) s4 Z4 (by omega)
  have g5' : Ra (d + 59) 132 [.ref 162] σ4 (.inl none) τ5 := g5
  have n5 := F5.2.2.1
  have S5' : pS τ5 162 R5 (yD0 1 1) .null 0 0 := S5
  have J5 : pJ 162 τ5.2.1.1 162 R5 (yD0 1 1) := by
    refine ⟨⟨Nat.le_refl _, by omega⟩, ⟨by have := q1.1; omega, q1.2⟩, ⟨by have := q2.1; omega, q2.2⟩, ⟨fun p hp => ?_, fun q hq => ?_⟩, fun p q hp hq _ => ?_, fun p q hp hq _ => ?_⟩
    · have h : p < 1 := hp
      have e : p = 0 := by omega
      subst e
      exact ⟨by have := q3.1; omega, q3.2⟩
    · have h : q < 1 := hq
      have e : q = 0 := by omega
      subst e
      exact ⟨by have := q4.1; omega, q4.2⟩
    · have h : p < 1 := hp
      have h' : q < 1 := hq
      omega
    · have h : p < 1 := hp
      have h' : q < 1 := hq
      omega
  have I4 := pI_F I3 F4 (fun _ q => q.elim) (fun _ _ _ _ q => q)
  have P4 : pc0 σ4 := ⟨pbz_keep P3.1 Z3 F4 id, pch_keep P3.2 Z3 F4 id⟩
  have I5 := pI_F I4 F5 (fun b (q : b = 162) => by omega) (fun b e h1 h2 (q : b = 162) => by
    rw [q, s4] at h1
    cases h1
    exact pco_strip h2)
  have P5 : pc0 τ5 := ⟨pbz_keep P4.1 Z4 F5 (show ¬ 160 = 162 by decide), pch_keep P4.2 Z4 F5 (show ¬ 161 = 162 by decide)⟩
  obtain ⟨τ6, g6, I6, -, F6⟩ := m_209 (d := d + 52) I5 S5' J5 (by decide) (by decide) (by omega)
  have g6' : Ra (d + 59) 209 [.ref 0, .ref 162] τ5 (.inl (some (.int 1))) τ6 := g6
  have n6 := F6.2.2.1
  have P6 := P5.keep Z5 F6
  have k97 : Ra (d + 59) 97 [.ref 0] τ6 (.inl (some (.int (-1)))) τ6 := c_97 I6
  have k98 : Ra (d + 59) 98 [.ref 0] τ6 (.inl (some (.int 0))) τ6 := c_98 I6
  have k117 : Ra (d + 57 + 2) 117 [.ref 0] τ6 (.inl (some (.int (-1)))) τ6 := c_117_0 I6
  have k117' : Ra (d + 59) 117 [.ref 0] τ6 (.inl (some (.int (-1)))) τ6 := k117
  obtain ⟨τ7, g7, I7, F7⟩ := c_201n_0 (d := d + 54) I6 (by omega) rfl
  have g7' : Ra (d + 59) 201 [.ref 0, .int 0] τ6 (.inl (some (.int (-2000000100)))) τ7 := g7
  have n7 := F7.2.2.1
  have P7 := P6.keep I6.Z F7
  obtain ⟨τ8, g8, I8, F8⟩ := c_201t (d := d + 54) I7 (by omega)
  have g8' : Ra (d + 59) 201 [.ref 0, .int 2] τ7 (.inl (some (.int (-2000000097)))) τ8 := g8
  have n8 := F8.2.2.1
  have P8 := P7.keep I7.Z F8
  obtain ⟨τ9, g9, I9, F9⟩ := c_196t (d := d + 52) I8 (by omega)
  have g9' : Ra (d + 59) 196 [.ref 0, .int 51] τ8 (.inl (some (.int (-2000000098)))) τ9 := g9
  have n9 := F9.2.2.1
  have P9 := P8.keep I8.Z F9
  obtain ⟨τa, ga, Ia, Fa⟩ := c_196 (d := d + 52) I9 (T := 50) (by decide) (by decide)
  have hw : ywrongs (yshows 50 (yD0 1 1)) = 0 := pj1_shows 50 _ ⟨rfl, rfl, rfl⟩ rfl
  rw [hw] at ga
  have ga' : Ra (d + 59) 196 [.ref 0, .int 50] τ9 (.inl (some (.int 0))) τa := ga
  have na := Fa.2.2.1
  have Pa := P9.keep I9.Z Fa
  obtain ⟨τb, gb, Ib, Fb⟩ := c_117 (d := d + 57) Ia (by decide)
  have gb' : Ra (d + 59) 117 [.ref 0] τa (.inl (some (.int 0))) τb := gb
  have Ib' : pI τb (yD0 1 1) 0 (fun j => ypush (yD0 1 1) E (j + 1)) none none 0 B (-1) 0 := Ib
  have nb := Fb.2.2.1
  have Pb := Pa.keep Ia.Z Fb
  obtain ⟨τc, gc, Ic, Fc⟩ := c_193t3 (d := d + 56) Ib' (by omega) (f := 0) (q := 1) (r := 0) (g := 0) (b := 0) (by decide) (by decide) (by decide) (by decide) (by decide) (by decide)
  have gc' : Ra (d + 59) 193 [.ref 0, .int 0, .int 1, .int 0, .int 0, .int 0] τb (.inl (some (.int (-2000000097)))) τc := gc
  have nc := Fc.2.2.1
  have Pc := Pb.keep Ib'.Z Fc
  obtain ⟨τd, gd, Id, Fd⟩ := c_193t2 (d := d + 56) Ic (by omega) (f := 0) (q := 0) (r := 0) (g := 256) (b := 0) (by decide) (by decide) (by decide) (by decide) (by decide) (by decide)
  have gd' : Ra (d + 59) 193 [.ref 0, .int 0, .int 0, .int 0, .int 256, .int 0] τc (.inl (some (.int (-2000000098)))) τd := gd
  have nd := Fd.2.2.1
  have Pd := Pc.keep Ic.Z Fd
  obtain ⟨τe, ge, Ie, Fe⟩ := c_198t0 (d := d + 56) Id (by omega) (p := 0) (x := 3) (v := 0) (by decide) (by decide)
  have ge' : Ra (d + 59) 198 [.ref 0, .int 0, .int 3, .int 0] τd (.inl (some (.int (-2000000098)))) τe := ge
  have ne := Fe.2.2.1
  have Pe := Pd.keep Id.Z Fe
  obtain ⟨τf, gf, If, Ff⟩ := c_199t (d := d + 56) Ie (by omega) (g := 1) (l := 0) (by decide) (by decide)
  have gf' : Ra (d + 59) 199 [.ref 0, .int 1, .int 0] τe (.inl (some (.int (-2000000097)))) τf := gf
  have nf := Ff.2.2.1
  have Pf := Pe.keep Ie.Z Ff
  have A1 : pFb 288 870 σ3 τ6 := pFb.mono ((pFb.trans F4.2.2 F5.2.2).trans F6.2.2) (by decide) (by decide)
  have A2 : pFb 3 18 τ6 τb := pFb.mono ((((pFb.trans F7.2.2 F8.2.2).trans F9.2.2).trans Fa.2.2).trans Fb.2.2) (by decide) (by decide)
  have A3 : pFb 4 24 τb τf := pFb.mono (((pFb.trans Fc.2.2 Fd.2.2).trans Fe.2.2).trans Ff.2.2) (by decide) (by decide)
  obtain ⟨o6, ho6⟩ := I6.o0
  obtain ⟨o7, ho7⟩ := I7.o0
  obtain ⟨oa, hoa⟩ := Ia.o0
  have a3 : σ3.2.1.1 < 900000 := by omega
  have r4 : xRd σ4 162 = some (.inr (12, xdef 12)) := by rw [yrd_lt (by decide), s4]
  refine ⟨τf, _, ⟨If, Pf⟩, pFb.mono ((pFb.trans A1 A2).trans A3) (by decide) (by decide), fun Q => ?_⟩
  simp only [s_244_27, s_244_28, a3, n3, hgf_s, hsel_0, hsel_1, hsel_2, hsel_3, hsel_4, hsel_5, hsel_6, hsel_7, hsel_8, hset_0, hset_1, hset_2, hset_3, hset_4, hset_5, hset_6, hset_7, hset_8, hpf_s, hcl_s, hai_s, hpi_0, hpi_1, hln_0, hln_1, List.length_cons, List.length_nil, xwr_1, xwr_2, xnew_1, xnew_n, xnew_s, xnew_z, Nat.reduceLT, ite_true, and_self, hp_8_0, hp_8_1, hn_8_1, hp_8_2, hn_8_2, hp_9_0, hp_9_1, hp_9_2, hp_9_3, hp_9_4, hp_9_5, hn_9_5, hp_9_6, hn_9_6, hp_9_7, hn_9_7, hp_10_0, hp_10_1, hp_10_2, hn_10_2, hp_10_3, hn_10_3, hp_11_0, hp_12_0, hn_12_0, hp_12_1, hp_12_2, hp_12_3, hp_12_4, hp_12_5, hn_12_5, hp_12_6, hn_12_6, hp_12_7, hp_12_8, hp_13_0, hn_13_0, hp_13_1, hp_13_2, hp_13_3, hp_14_0, hn_14_0, hp_14_1, hp_14_2, hp_14_3, xdef_8, xdef_9, xdef_10, xdef_11, xdef_12, xdef_13, xdef_14, Gk_v, Gk_n, xcat_nil, xcat_i, xcat_r, xcat_l, xcat_d, Nat.zero_le, Nat.reduceAdd, Nat.reduceLeDiff, true_and, and_true, ykl_i, ykl_r, ykl_n, ykl_l]
  rw [e4']
  simp only [s_244_29, s_244_29i, s_244_30, s_244_31, s_244_32, s_244_33, s_244_34, s_244_35, s_244_36, s_244_37, s_244_38, s_244_39, s_244_40, s_244_41, s_244_42, s_244_43, s_244_44, s_244_45, s_244_46, s_244_47, s_244_48, s_244_49, s_244_50, s_244_51, s_244_52, s_244_53, s_244_54, s_244_55, s_244_56, s_244_57, s_244_58, s_244_59, s_244_60, s_244_61, s_244_62, s_244_63, s_244_64, s_244_65, r4, g5' _, g6' _, ho6, k97 _, k98 _, k117' _, g7' _, g8' _, g9' _, ga' _, hoa, gb' _, Nat.reduceLT, show ¬ (1 : Int32) = 0 from by decide, ne_eq, not_true_eq_false, if_false, hcl_s, true_and, hgf_s, hsel_0, hsel_1, hsel_2, hsel_3, hsel_4, hsel_5, hsel_6, hsel_7, hsel_8, hset_0, hset_1, hset_2, hset_3, hset_4, hset_5, hset_6, hset_7, hset_8, hpf_s, hcl_s, hai_s, hpi_0, hpi_1, hln_0, hln_1, List.length_cons, List.length_nil, xwr_1, xwr_2, xnew_1, xnew_n, xnew_s, xnew_z, Nat.reduceLT, ite_true, and_self, hp_8_0, hp_8_1, hn_8_1, hp_8_2, hn_8_2, hp_9_0, hp_9_1, hp_9_2, hp_9_3, hp_9_4, hp_9_5, hn_9_5, hp_9_6, hn_9_6, hp_9_7, hn_9_7, hp_10_0, hp_10_1, hp_10_2, hn_10_2, hp_10_3, hn_10_3, hp_11_0, hp_12_0, hn_12_0, hp_12_1, hp_12_2, hp_12_3, hp_12_4, hp_12_5, hn_12_5, hp_12_6, hn_12_6, hp_12_7, hp_12_8, hp_13_0, hn_13_0, hp_13_1, hp_13_2, hp_13_3, hp_14_0, hn_14_0, hp_14_1, hp_14_2, hp_14_3, xdef_8, xdef_9, xdef_10, xdef_11, xdef_12, xdef_13, xdef_14, Gk_v, Gk_n, xcat_nil, xcat_i, xcat_r, xcat_l, xcat_d, Nat.zero_le, Nat.reduceAdd, Nat.reduceLeDiff, true_and, and_true, ykl_i, ykl_r, ykl_n, ykl_l]
  simp only [s_244_66, s_244_67, s_244_68, s_244_69, s_244_70, s_244_71, s_244_72, s_244_73, s_244_74, s_244_75, s_244_76, s_244_77, s_244_78, s_244_79, s_244_80, s_244_81, s_244_82, s_244_83, s_244_84, s_244_85, s_244_86, s_244_87, s_244_88, s_244_89, s_244_90, s_244_91, s_244_92, s_244_93, s_244_94, s_244_95, s_244_96, s_244_97, s_244_98, s_244_99, s_244_100, gc' _, gd' _, ge' _, gf' _, show ¬ (1 : Int32) = 0 from by decide, ne_eq, not_true_eq_false, if_false, hcl_s, true_and, hgf_s, hsel_0, hsel_1, hsel_2, hsel_3, hsel_4, hsel_5, hsel_6, hsel_7, hsel_8, hset_0, hset_1, hset_2, hset_3, hset_4, hset_5, hset_6, hset_7, hset_8, hpf_s, hcl_s, hai_s, hpi_0, hpi_1, hln_0, hln_1, List.length_cons, List.length_nil, xwr_1, xwr_2, xnew_1, xnew_n, xnew_s, xnew_z, Nat.reduceLT, ite_true, and_self, hp_8_0, hp_8_1, hn_8_1, hp_8_2, hn_8_2, hp_9_0, hp_9_1, hp_9_2, hp_9_3, hp_9_4, hp_9_5, hn_9_5, hp_9_6, hn_9_6, hp_9_7, hn_9_7, hp_10_0, hp_10_1, hp_10_2, hn_10_2, hp_10_3, hn_10_3, hp_11_0, hp_12_0, hn_12_0, hp_12_1, hp_12_2, hp_12_3, hp_12_4, hp_12_5, hn_12_5, hp_12_6, hn_12_6, hp_12_7, hp_12_8, hp_13_0, hn_13_0, hp_13_1, hp_13_2, hp_13_3, hp_14_0, hn_14_0, hp_14_1, hp_14_2, hp_14_3, xdef_8, xdef_9, xdef_10, xdef_11, xdef_12, xdef_13, xdef_14, Gk_v, Gk_n, xcat_nil, xcat_i, xcat_r, xcat_l, xcat_d, Nat.zero_le, Nat.reduceAdd, Nat.reduceLeDiff, true_and, and_true, ykl_i, ykl_r, ykl_n, ykl_l]
/-- a strip by chance, and the rows -/
theorem l_244_b2 (I3 : pI σ3 (yD0 1 1) 0 E none none 0 B (-1) 0) (P3 : pc0 σ3) (n3 : 162 ≤ σ3.2.1.1 ∧ σ3.2.1.1 < 1000) (H : ∀ (τ : xS) bf sl s, pLw 0 bf sl τ 0 s → pFb 582 17851 σ3 τ → ∀ (l11 l12 l13 l14 l15 l16 l17 l18 l19 l20 l21 l22 l23 l24 l25 l26 l27 l28 l29 l30 l31 l32 : Option Value), G (d + 60) 244 130 [some (.ref 1000000), some (.int 1), some (.int i2), some (.ref 0), some (.ref 160), some (.ref 161), some (.ref s), some (.ref bf), some (.ref sl), some (.int (yI 0)), some (.int (yI 0)), l11, l12, l13, l14, l15, l16, l17, l18, l19, l20, l21, l22, l23, l24, l25, l26, l27, l28, l29, l30, l31, l32] [] τ Q) : G (d + 60) 244 101 [some (.ref 1000000), some (.int 1), some (.int i2), some (.ref 0), some (.ref 160), some (.ref 161), l6, l7, l8, l9, l10, l11, l12, l13, l14, l15, l16, l17, l18, l19, l20, l21, l22, l23, l24, l25, l26, l27, l28, l29, l30, l31, l32] [] σ3 Q := by
  obtain ⟨t, et, C, Zt⟩ := I3
  obtain ⟨hb, hch⟩ := P3
  have X0 : pX0 160 161 σ3 t := ⟨⟨et, Zt⟩, ⟨⟨by decide, by decide⟩, by obtain ⟨f, hf, -⟩ := hb; exact ⟨f, hf⟩⟩, by decide, hch⟩
  obtain ⟨τ1, D, R, cv, B1, hi, g1, ⟨I1, hb1, ch1⟩, ⟨S1, J1, hi1⟩, ⟨V1, h9, pf1⟩, ⟨n1, n2⟩, n4, n5⟩ := m_207 (d := d + 39) X0 C hb (by omega)
  have g1' : Ra (d + 59) 207 [.ref 0, .ref 160, .ref 161] σ3 (.inl (some (.ref σ3.2.1.1))) τ1 := g1
  have A1 : pFb 300 17000 σ3 τ1 := ⟨⟨n1, n2⟩, n4, n5⟩
  obtain ⟨s, hs⟩ : ∃ s, s = σ3.2.1.1 := ⟨_, rfl⟩
  rw [← hs] at g1' S1 J1
  have hs6 : s < 1000000 := by omega
  have W1 : pWo 0 s s hi τ1 R cv 0 0 D (min 8 (0 + 1)) (ypush (yD0 1 1) E) none none (-1) 0 D := ⟨⟨B1, I1⟩, ⟨hb1, ch1⟩, ⟨S1, J1⟩, ⟨by omega, hi1⟩, ⟨V1, I1.ok⟩, h9, pf1⟩
  obtain ⟨τ2, g2, W2, F2⟩ := W1.agree (d := d + 52) (by omega)
  have g2' : Ra (d + 59) 209 [.ref 0, .ref s] τ1 (.inl (some (.int 1))) τ2 := g2
  have nn2 := F2.2.2.1
  have hhi := W2.hb
  obtain ⟨W3, F3⟩ := W2.new (e := .inl (7, (9, .inr (.inr (.inr (.inr (fun _ => none))))))) (m := 9)
  have b3 : (xnew τ2 (.inl (7, (9, .inr (.inr (.inr (.inr (fun _ => none))))))) 9).1 τ2.2.1.1 = some (prow 7 9 (fun _ => none)) := pnew_at
  have x3 : (xnew τ2 (.inl (7, (9, .inr (.inr (.inr (.inr (fun _ => none))))))) 9).2.1.1 = τ2.2.1.1 + 1 := rfl
  obtain ⟨σ4, e4⟩ : ∃ σ4, σ4 = xnew τ2 (.inl (7, (9, .inr (.inr (.inr (.inr (fun _ => none))))))) 9 := ⟨_, rfl⟩
  rw [← e4] at W3 F3 b3 x3
  obtain ⟨W5, F5⟩ := W3.new (e := .inl (7, (2, .inr (.inr (.inr (.inr (fun _ => none))))))) (m := 2)
  have b5 : (xnew σ4 (.inl (7, (2, .inr (.inr (.inr (.inr (fun _ => none))))))) 2).1 τ2.2.1.1 = some (prow 7 9 (fun _ => none)) := by rw [xnew_1, if_neg (by omega), b3]
  have c5 : (xnew σ4 (.inl (7, (2, .inr (.inr (.inr (.inr (fun _ => none))))))) 2).1 σ4.2.1.1 = some (prow 7 2 (fun _ => none)) := pnew_at
  obtain ⟨σ5, e5⟩ : ∃ σ5, σ5 = xnew σ4 (.inl (7, (2, .inr (.inr (.inr (.inr (fun _ => none))))))) 2 := ⟨_, rfl⟩
  rw [← e5] at W5 F5 b5 c5
  have K : pRw 0 s hi τ2.2.1.1 σ4.2.1.1 σ5 0 (ypush (yD0 1 1) E) none none := ⟨⟨⟨⟨by omega, by omega⟩, by omega, by omega⟩, fun q => by have := q.2; omega, fun q => by have := q.2; omega⟩, ⟨_, b5, fun j b q => (by cases q), fun j q => absurd q (Nat.not_lt_zero _)⟩, _, c5, Or.inl ⟨rfl, rfl⟩, Or.inl ⟨rfl, rfl⟩⟩
  have a2 : τ2.2.1.1 < 900000 := by omega
  have a2' : τ2.2.1.1 < 1000000 := by omega
  have a4 : σ4.2.1.1 < 900000 := by omega
  have a4' : σ4.2.1.1 < 1000000 := by omega
  have m9 : ¬ (9 : Int32) < 0 := by decide
  have c9 : (9 : Int32).toNatClampNeg = 9 := rfl
  have k9 : (9 : Nat) ≤ 100000 := by decide
  have m2 : ¬ (2 : Int32) < 0 := by decide
  have k2 : (2 : Nat) ≤ 100000 := by decide
  simp only [s_244_101, s_244_102, s_244_103, s_244_104, s_244_105, s_244_106, s_244_107n, s_244_107, s_244_108, s_244_109, s_244_110, s_244_111, s_244_112, s_244_113, s_244_114, s_244_115, s_244_116, s_244_117, s_244_118, s_244_119, g1' _, hs6, true_or, g2' _, show ¬ (1 : Int32) = 0 from by decide, if_false, hgf_s, hsel_0, hsel_1, hsel_2, hsel_3, hsel_4, hsel_5, hsel_6, hsel_7, hsel_8, hset_0, hset_1, hset_2, hset_3, hset_4, hset_5, hset_6, hset_7, hset_8, hpf_s, hcl_s, hai_s, hpi_0, hpi_1, hln_0, hln_1, List.length_cons, List.length_nil, xwr_1, xwr_2, xnew_1, xnew_n, xnew_s, xnew_z, Nat.reduceLT, ite_true, and_self, hp_8_0, hp_8_1, hn_8_1, hp_8_2, hn_8_2, hp_9_0, hp_9_1, hp_9_2, hp_9_3, hp_9_4, hp_9_5, hn_9_5, hp_9_6, hn_9_6, hp_9_7, hn_9_7, hp_10_0, hp_10_1, hp_10_2, hn_10_2, hp_10_3, hn_10_3, hp_11_0, hp_12_0, hn_12_0, hp_12_1, hp_12_2, hp_12_3, hp_12_4, hp_12_5, hn_12_5, hp_12_6, hn_12_6, hp_12_7, hp_12_8, hp_13_0, hn_13_0, hp_13_1, hp_13_2, hp_13_3, hp_14_0, hn_14_0, hp_14_1, hp_14_2, hp_14_3, xdef_8, xdef_9, xdef_10, xdef_11, xdef_12, xdef_13, xdef_14, Gk_v, Gk_n, xcat_nil, xcat_i, xcat_r, xcat_l, xcat_d, Nat.zero_le, Nat.reduceAdd, Nat.reduceLeDiff, true_and, and_true, ykl_i, ykl_r, ykl_n, ykl_l]
  simp only [s_244_120, s_244_121, s_244_122, a2, a2', m9, c9, k9, not_false_eq_true, hgf_s, hsel_0, hsel_1, hsel_2, hsel_3, hsel_4, hsel_5, hsel_6, hsel_7, hsel_8, hset_0, hset_1, hset_2, hset_3, hset_4, hset_5, hset_6, hset_7, hset_8, hpf_s, hcl_s, hai_s, hpi_0, hpi_1, hln_0, hln_1, List.length_cons, List.length_nil, xwr_1, xwr_2, xnew_1, xnew_n, xnew_s, xnew_z, Nat.reduceLT, ite_true, and_self, hp_8_0, hp_8_1, hn_8_1, hp_8_2, hn_8_2, hp_9_0, hp_9_1, hp_9_2, hp_9_3, hp_9_4, hp_9_5, hn_9_5, hp_9_6, hn_9_6, hp_9_7, hn_9_7, hp_10_0, hp_10_1, hp_10_2, hn_10_2, hp_10_3, hn_10_3, hp_11_0, hp_12_0, hn_12_0, hp_12_1, hp_12_2, hp_12_3, hp_12_4, hp_12_5, hn_12_5, hp_12_6, hn_12_6, hp_12_7, hp_12_8, hp_13_0, hn_13_0, hp_13_1, hp_13_2, hp_13_3, hp_14_0, hn_14_0, hp_14_1, hp_14_2, hp_14_3, xdef_8, xdef_9, xdef_10, xdef_11, xdef_12, xdef_13, xdef_14, Gk_v, Gk_n, xcat_nil, xcat_i, xcat_r, xcat_l, xcat_d, Nat.zero_le, Nat.reduceAdd, Nat.reduceLeDiff, true_and, and_true, ykl_i, ykl_r, ykl_n, ykl_l]
  rw [← e4]
  simp only [s_244_123, s_244_124, s_244_125, a4, a4', m2, ycl_2, k2, not_false_eq_true, hgf_s, hsel_0, hsel_1, hsel_2, hsel_3, hsel_4, hsel_5, hsel_6, hsel_7, hsel_8, hset_0, hset_1, hset_2, hset_3, hset_4, hset_5, hset_6, hset_7, hset_8, hpf_s, hcl_s, hai_s, hpi_0, hpi_1, hln_0, hln_1, List.length_cons, List.length_nil, xwr_1, xwr_2, xnew_1, xnew_n, xnew_s, xnew_z, Nat.reduceLT, ite_true, and_self, hp_8_0, hp_8_1, hn_8_1, hp_8_2, hn_8_2, hp_9_0, hp_9_1, hp_9_2, hp_9_3, hp_9_4, hp_9_5, hn_9_5, hp_9_6, hn_9_6, hp_9_7, hn_9_7, hp_10_0, hp_10_1, hp_10_2, hn_10_2, hp_10_3, hn_10_3, hp_11_0, hp_12_0, hn_12_0, hp_12_1, hp_12_2, hp_12_3, hp_12_4, hp_12_5, hn_12_5, hp_12_6, hn_12_6, hp_12_7, hp_12_8, hp_13_0, hn_13_0, hp_13_1, hp_13_2, hp_13_3, hp_14_0, hn_14_0, hp_14_1, hp_14_2, hp_14_3, xdef_8, xdef_9, xdef_10, xdef_11, xdef_12, xdef_13, xdef_14, Gk_v, Gk_n, xcat_nil, xcat_i, xcat_r, xcat_l, xcat_d, Nat.zero_le, Nat.reduceAdd, Nat.reduceLeDiff, true_and, and_true, ykl_i, ykl_r, ykl_n, ykl_l]
  rw [← e5]
  simp only [s_244_126, s_244_127, s_244_128, s_244_129, Gk_v, Gk_n, xcat_nil, xcat_i, xcat_r, xcat_l, xcat_d, Nat.zero_le, Nat.reduceAdd, Nat.reduceLeDiff, true_and, and_true, ykl_i, ykl_r, ykl_n, ykl_l]
  exact H σ5 τ2.2.1.1 σ4.2.1.1 s ⟨s, hi, R, cv, 0, 0, D, min 8 (0 + 1), _, none, none, -1, 0, W5, K, rfl⟩ (pFb.mono (((pFb.trans A1 F2.2.2).trans F3.2.2).trans F5.2.2) (by decide) (by decide)) _ _ _ _ _ _ _ _ _ _ _ _ _ _ _ _ _ _ _ _ _ _
end

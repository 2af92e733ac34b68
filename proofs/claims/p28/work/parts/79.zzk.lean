/-! ===== the law's loop: scripts ===== -/
section
variable {d M M' s lo hi c x k bf sl pv p : Nat} {σ τ : xS} {R R1 : pR} {cv : Value} {dn' en' eo en i2 yd yn : Int32} {D D1 X X1 : yD} {E E1 : Nat → yD} {s0 s1 s0' s1' : Option yD} {Q : xR → xS → Prop} {l12 l13 l14 l15 l16 l17 l18 l19 l20 l21 l22 l23 l24 l25 l26 l27 l28 l29 l30 l31 l32 : Option Value}
/-- the text so far stays when the law's own cells change -/
theorem pX.an {b r c' x' n0 : Nat} {B : Nat → Nat} {σ0 : xS} {t0 : yT} {l : List Nat} {P : Nat → Prop} (X0 : pX0 b r σ0 t0) (C : yCI t0 D k E s0 s1 n0 B eo en) (X : pX b r σ0 t0 c x σ l) (F : pF P c' x' σ τ) (hP : ∀ a, P a → 160 ≤ a ∧ (a ≠ b ∧ a ≠ r)) (hco : ∀ a e, σ.1 a = some e → pco e → ¬ P a) : ∃ t1, pX0 b r τ t1 ∧ (yCI t1 D k E s0 s1 (20 * (l.length / 20)) (pbt l) eo en ∧ pX b r τ t1 0 0 τ l) := by
  have hz := X.Z X0
  have hn := X.n0 X0
  have hz1 : pZ τ := pZ_F hz F
  have hn1 : 160 ≤ τ.2.1.1 := Nat.le_trans hn F.2.2.1.1
  obtain ⟨t, rfl, hA, Ct, Zt⟩ := X.ci X0 C
  obtain ⟨-, ⟨f, h1, h2⟩, ⟨hr1, y, hy⟩, -, h128⟩ := X
  obtain ⟨-, ⟨hb, -⟩, hr, -⟩ := X0
  have e : yemb (pM t τ) = τ := pM_emb (fun a ha => F.1 a (Nat.lt_of_lt_of_le ha hn) (fun q => by have := (hP a q).1; omega))
  have kb : τ.1 b = some (pints 8 f) := pF_keep hz F h1 (fun q => (hP b q).2.1 rfl)
  have kr : pch τ r := ⟨hr1, y, pF_keep hz F hy (fun q => (hP r q).2.2 rfl)⟩
  have C1 : yCI (pM t τ) D k E s0 s1 (20 * (l.length / 20)) (pbt l) eo en := pM_K (fun a e' ha hc => pF_keep hz F ha (hco a e' ha hc)) Ct
  have T : yT1 (pM t τ) (20 * (l.length / 20)) (pbt l) := C1.2.2.2.1
  have hz' : 160 ≤ (pM t τ).z.1.1 := hn1
  have Z1 : yZ (pM t τ) := pZ_y hz' (by rw [e]; exact hz1)
  exact ⟨pM t τ, ⟨⟨e.symm, Z1⟩, ⟨hb, f, kb⟩, hr, kr⟩, C1, ⟨pM t τ, e.symm, fun _ _ _ => ⟨rfl, rfl, rfl⟩, T⟩, ⟨f, kb, h2⟩, kr, pF.rfl', h128⟩
theorem l_244_8 (W : pWo M s lo hi σ R cv dn' en' D k E s0 s1 eo en D) (hM : M + 300 < 1000000) (hr : σ.2.1.1 + 5000 < 890000) (H : ∀ τ ch, pRes M s lo hi σ τ D k E s0 s1 ch → ∀ (l13 l14 l15 l16 l17 l18 l19 l20 l21 l22 l23 l24 l25 l26 l27 l28 l29 l30 l31 l32 : Option Value), G (d + 60) 244 570 [some (.ref 1000000), some (.int 1), some (.int i2), some (.ref 0), some (.ref 160), some (.ref 161), some (.ref s), some (.ref bf), some (.ref sl), some (.int yd), some (.int yn), some (.ref pv), some (.int (yb ch)), l13, l14, l15, l16, l17, l18, l19, l20, l21, l22, l23, l24, l25, l26, l27, l28, l29, l30, l31, l32] [] τ Q) : G (d + 60) 244 478 [some (.ref 1000000), some (.int 1), some (.int i2), some (.ref 0), some (.ref 160), some (.ref 161), some (.ref s), some (.ref bf), some (.ref sl), some (.int yd), some (.int yn), some (.ref pv), some (.int 1), some (.int (yI D.n)), l14, l15, l16, l17, l18, l19, l20, l21, l22, l23, l24, l25, l26, l27, l28, l29, l30, l31, l32] [] σ Q := by
  have Z0 := W.Z
  have h1 := W.ok.n1
  have hs6 := W.s6
  obtain ⟨⟨B, t, et, Ct, Zt⟩, ⟨⟨f0, hf0, hf1⟩, hch⟩, ⟨S, J⟩, ⟨h162, hhi⟩, ⟨V, ok⟩, h9, hf⟩ := W
  have X0 : pX0 160 161 σ t := ⟨⟨et, Zt⟩, ⟨⟨by decide, by decide⟩, f0, hf0⟩, by decide, hch⟩
  have n82 : n8 2 * q8 2 = 51 := rfl
  have c82 : n8 2 * c8 2 = 21 := rfl
  have p82 : n8 2 * p8 2 = 528 := rfl
  have z82 : n8 2 + n8 2 * z8 2 = 189 := rfl
  obtain ⟨σ1, w, cnt, j, g1, ⟨X1, F1⟩, ⟨hw, hcnt⟩, K⟩ := m_208 (d := d + 51) X0 Ct ⟨h1, h9⟩ 0 0 σ [] (pX_0 X0 Ct ⟨f0, hf0, hf1⟩) (by decide) (by omega)
  have g1' : Ra (d + 59) 208 [.ref 0, .ref 160, .ref 161, .int (yI D.n), .int 2] σ (.inl (some (.ref σ.2.1.1))) σ1 := g1
  rw [List.nil_append] at X1
  have F1' : pF (pXp 160 161) 52 189 σ σ1 := F1.mono (fun _ _ q => q) (by omega) (by omega)
  have n1 := F1'.2.2.1
  have hXp : ∀ b, pXp 160 161 b → b < 162 := fun b q => by
    rcases q with q | q | q | q <;> omega
  have S1 : pS σ1 s R D cv dn' en' := S.fr Z0 J F1' (fun b _ hb q => by have := hXp b q; have := hb.1; omega) X0.co
  have V1 : pcv σ1 cv D := pcv_no V (fun b e h1 h2 => pF_keep Z0 F1' h1 (X0.co b e h1 h2))
  have Z1 : pZ σ1 := X1.Z X0
  have U1 : pU lo hi s cv dn' en' σ1 0 0 σ1 R D := ⟨S1, Z1, J, pF.rfl'⟩
  have U2 := U1.strip (D' := D) (dn' := 0) (en' := en') rfl rfl rfl rfl (fun _ => ⟨rfl, rfl, rfl, rfl, rfl, rfl, rfl, rfl, rfl, rfl, rfl⟩) rfl
  obtain ⟨σa, ea⟩ : ∃ σa, σa = xwr σ1 s (.inr (12, [.ref R.lr, .int D.un, .int D.lv, .int D.sh, .int D.ac, .ref R.fr, cv, .int 0, .int en'])) := ⟨_, rfl⟩
  rw [← ea] at U2
  have U3 := U2.strip (D' := D) (dn' := 0) (en' := 0) rfl rfl rfl rfl (fun _ => ⟨rfl, rfl, rfl, rfl, rfl, rfl, rfl, rfl, rfl, rfl, rfl⟩) rfl
  obtain ⟨σ2, e2⟩ : ∃ σ2, σ2 = xwr σa s (.inr (12, [.ref R.lr, .int D.un, .int D.lv, .int D.sh, .int D.ac, .ref R.fr, cv, .int 0, .int 0])) := ⟨_, rfl⟩
  rw [← e2] at U3
  obtain ⟨S2, Z2, J2, F2⟩ := U3
  have n2 := F2.2.2.1
  have V2 : pcv σ2 cv D := pcv_no V1 (fun b e h1 h2 => pF_keep Z1 F2 h1 (fun q => q.2 e h1 h2))
  have P2 : pQ lo hi s cv σ2 M σ2 R (0, (D, 0)) := ⟨⟨S2, Z2, J2, pF.rfl'⟩, ⟨ok, h9, hf, V2⟩, Nat.zero_le _, Nat.zero_le _⟩
  obtain ⟨T, hrun, hQ⟩ := pBk_run K (by decide) (by omega)
  have hQ1 : pCw σ1 T σ.2.1.1 2 σ.2.1.1 0 (0 + cnt) := hQ
  rw [Nat.zero_add] at hQ1
  have hQ3 : pCw σ2 T σ.2.1.1 3 σ.2.1.1 0 cnt := pCw_mono (Nat.le_refl _) (fun a e q1 q2 q3 => pF_keep Z1 F2 q3 (fun q => by have := q.1.2; omega)) _ _ _ _ (fun _ _ _ => ⟨rfl, rfl, rfl⟩) (pCw_up _ _ _ _ hQ1)
  obtain ⟨τ2, R2, g2, P3⟩ := m_147 (M := M) Z2 (h := σ.2.1.1) hhi (by omega) (by omega) (by omega) 3 (d + 48) σ.2.1.1 0 cnt σ2 R (0, (D, 0)) hQ3 P2 rfl
  obtain ⟨Y, hY⟩ : ∃ Y, Y = yxK T 3 0 cnt (0, (D, 0)) := ⟨_, rfl⟩
  rw [← hY] at g2 P3
  have g2' : Ra (d + 59) 147 [.ref s, .ref σ.2.1.1] σ2 (.inl (some (.int (yb (decide (Y.1 = 0)))))) τ2 := g2
  obtain ⟨⟨S3, Z3, J3, F3⟩, ⟨ok3, n3, pf3, V3⟩, y200, y3⟩ := P3
  have n3' := F3.2.2.1
  have F23 : pF (pP lo hi σ1) (0 + 20 * Y.2.2) (0 + 72 * Y.2.2) σ1 τ2 := pF.trans F2 F3 (fun b _ q => q.elim id (fun q => ⟨q.1, fun e he hc => q.2 e (pF_keep Z1 F2 he (fun w => w.2 e he hc)) hc⟩))
  obtain ⟨t1, X01, C1, X2⟩ := X1.an X0 Ct F23 (fun a q => by have := q.1.1; omega) (fun a e h1 h2 q => q.2 e h1 h2)
  obtain ⟨τ3, g3, ⟨I3, hb3⟩, F4⟩ := m_202 (d := d + 35) X01 C1 X2 (by omega) hrun
  rw [← hY] at g3 I3
  have g3' : Ra (d + 59) 202 [.ref 0, .ref 160] τ2 (.inl (some (.int (yI Y.2.2)))) τ3 := g3
  have n4 := F4.2.2.1
  have hcb : ∀ b, pcb 160 b → b < 162 := fun b q => by
    rcases q with q | q
    · have := pcl_lt q; omega
    · omega
  have hco4 : ∀ b e, τ2.1 b = some e → pco e → ¬ pcb 160 b := by
    intro b e q1 q2 q
    rcases q with q | q
    · rw [X01.1.1] at q1
      exact pcl_co q1 q2 q
    · exact X2.co X01 b e q1 q2 (Or.inr (Or.inr (Or.inl q)))
  have S4 : pS τ3 s R2 Y.2.1 cv (yI Y.2.2) (yI Y.1) := S3.fr Z3 J3 F4 (fun b _ hb q => by have := hcb b q; have := hb.1; omega) hco4
  have V4 : pcv τ3 cv Y.2.1 := pcv_no V3 (fun b e h1 h2 => pF_keep Z3 F4 (pF_keep Z2 F3 h1 (fun q => q.2 e h1 h2)) (hco4 b e (pF_keep Z2 F3 h1 (fun q => q.2 e h1 h2)) h2))
  have ch3 : pch τ3 161 := pch_keep X2.2.2.1 Z3 F4 (fun q => q.elim (fun q => absurd (pcl_lt q) (by decide)) (fun q => absurd q (by decide)))
  have W3 : pWo (M + 201) s lo hi τ3 R2 cv (yI Y.2.2) (yI Y.1) Y.2.1 (min 8 (k + 1)) (ypush D E) s0 s1 (-1) (yI Y.1) Y.2.1 :=
    ⟨⟨_, I3⟩, ⟨hb3, ch3⟩, ⟨S4, J3⟩, ⟨h162, by omega⟩, ⟨V4, ok3⟩, n3, pfr_mono pf3 (by omega)⟩
  have G1 : pFw lo hi 52 189 σ σ1 := pFw.of F1' (fun b q => Or.inl (hXp b q)) X0.co
  have G2 : pFw lo hi (0 + 20 * Y.2.2) (0 + 72 * Y.2.2) σ1 τ2 := pFw.of F23 (fun b q => Or.inr q.1) (fun a e h1 h2 q => q.2 e h1 h2)
  have G3 : pFw lo hi 0 0 τ2 τ3 := pFw.of F4 (fun b q => Or.inl (hcb b q)) hco4
  obtain ⟨oo, hoo⟩ := W3.o0
  have g4 := c_98 (d := d + 59) I3
  have g5 := c_97 (d := d + 59) I3
  have o1 := S1.ob
  have c1 := S1.1.2
  have o2 := U2.1.ob
  have c2 := U2.1.1.2
  have o3 := S2.ob
  have o4 := S4.ob
  have hx9 : σ.2.1.1 < 1000000 := by omega
  simp only [s_244_478, s_244_479, s_244_480, s_244_481, s_244_482, s_244_483, s_244_484, s_244_485, s_244_486, s_244_487, g1' _, o1, c1, hs6, hx9, hcl_s, true_and, hgf_s, hsel_0, hsel_1, hsel_2, hsel_3, hsel_4, hsel_5, hsel_6, hsel_7, hsel_8, hset_0, hset_1, hset_2, hset_3, hset_4, hset_5, hset_6, hset_7, hset_8, hpf_s, hcl_s, hai_s, hpi_0, hpi_1, hln_0, hln_1, List.length_cons, List.length_nil, xwr_1, xwr_2, xnew_1, xnew_n, xnew_s, xnew_z, Nat.reduceLT, ite_true, and_self, hp_8_0, hp_8_1, hn_8_1, hp_8_2, hn_8_2, hp_9_0, hp_9_1, hp_9_2, hp_9_3, hp_9_4, hp_9_5, hn_9_5, hp_9_6, hn_9_6, hp_9_7, hn_9_7, hp_10_0, hp_10_1, hp_10_2, hn_10_2, hp_10_3, hn_10_3, hp_11_0, hp_12_0, hn_12_0, hp_12_1, hp_12_2, hp_12_3, hp_12_4, hp_12_5, hn_12_5, hp_12_6, hn_12_6, hp_12_7, hp_12_8, hp_13_0, hn_13_0, hp_13_1, hp_13_2, hp_13_3, hp_14_0, hn_14_0, hp_14_1, hp_14_2, hp_14_3, xdef_8, xdef_9, xdef_10, xdef_11, xdef_12, xdef_13, xdef_14, Gk_v, Gk_n, xcat_nil, xcat_i, xcat_r, xcat_l, xcat_d, Nat.zero_le, Nat.reduceAdd, Nat.reduceLeDiff, true_and, and_true, ykl_i, ykl_r, ykl_n, ykl_l]
  rw [← ea]
  simp only [s_244_488, s_244_489, s_244_490, o2, c2, hs6, hcl_s, true_and, hgf_s, hsel_0, hsel_1, hsel_2, hsel_3, hsel_4, hsel_5, hsel_6, hsel_7, hsel_8, hset_0, hset_1, hset_2, hset_3, hset_4, hset_5, hset_6, hset_7, hset_8, hpf_s, hcl_s, hai_s, hpi_0, hpi_1, hln_0, hln_1, List.length_cons, List.length_nil, xwr_1, xwr_2, xnew_1, xnew_n, xnew_s, xnew_z, Nat.reduceLT, ite_true, and_self, hp_8_0, hp_8_1, hn_8_1, hp_8_2, hn_8_2, hp_9_0, hp_9_1, hp_9_2, hp_9_3, hp_9_4, hp_9_5, hn_9_5, hp_9_6, hn_9_6, hp_9_7, hn_9_7, hp_10_0, hp_10_1, hp_10_2, hn_10_2, hp_10_3, hn_10_3, hp_11_0, hp_12_0, hn_12_0, hp_12_1, hp_12_2, hp_12_3, hp_12_4, hp_12_5, hn_12_5, hp_12_6, hn_12_6, hp_12_7, hp_12_8, hp_13_0, hn_13_0, hp_13_1, hp_13_2, hp_13_3, hp_14_0, hn_14_0, hp_14_1, hp_14_2, hp_14_3, xdef_8, xdef_9, xdef_10, xdef_11, xdef_12, xdef_13, xdef_14, Gk_v, Gk_n, xcat_nil, xcat_i, xcat_r, xcat_l, xcat_d, Nat.zero_le, Nat.reduceAdd, Nat.reduceLeDiff, true_and, and_true, ykl_i, ykl_r, ykl_n, ykl_l]
  rw [← e2]
  simp only [s_244_491, s_244_492, s_244_493, s_244_494, s_244_494i, s_244_495, s_244_496, s_244_497, o3, g2' _, g3' _, hcl_s, true_and, hgf_s, hsel_0, hsel_1, hsel_2, hsel_3, hsel_4, hsel_5, hsel_6, hsel_7, hsel_8, hset_0, hset_1, hset_2, hset_3, hset_4, hset_5, hset_6, hset_7, hset_8, hpf_s, hcl_s, hai_s, hpi_0, hpi_1, hln_0, hln_1, List.length_cons, List.length_nil, xwr_1, xwr_2, xnew_1, xnew_n, xnew_s, xnew_z, Nat.reduceLT, ite_true, and_self, hp_8_0, hp_8_1, hn_8_1, hp_8_2, hn_8_2, hp_9_0, hp_9_1, hp_9_2, hp_9_3, hp_9_4, hp_9_5, hn_9_5, hp_9_6, hn_9_6, hp_9_7, hn_9_7, hp_10_0, hp_10_1, hp_10_2, hn_10_2, hp_10_3, hn_10_3, hp_11_0, hp_12_0, hn_12_0, hp_12_1, hp_12_2, hp_12_3, hp_12_4, hp_12_5, hn_12_5, hp_12_6, hn_12_6, hp_12_7, hp_12_8, hp_13_0, hn_13_0, hp_13_1, hp_13_2, hp_13_3, hp_14_0, hn_14_0, hp_14_1, hp_14_2, hp_14_3, xdef_8, xdef_9, xdef_10, xdef_11, xdef_12, xdef_13, xdef_14, Gk_v, Gk_n, xcat_nil, xcat_i, xcat_r, xcat_l, xcat_d, Nat.zero_le, Nat.reduceAdd, Nat.reduceLeDiff, true_and, and_true, ykl_i, ykl_r, ykl_n, ykl_l]
  simp only [s_244_498, s_244_499, s_244_500, s_244_501, s_244_502, s_244_503, s_244_504, s_244_505, s_244_506, s_244_507, s_244_508, s_244_509, s_244_510, s_244_511, s_244_512, s_244_513, s_244_514, o4, hoo, g4 _, g5 _, ne_eq, not_true_eq_false, if_false, hcl_s, true_and, hgf_s, hsel_0, hsel_1, hsel_2, hsel_3, hsel_4, hsel_5, hsel_6, hsel_7, hsel_8, hset_0, hset_1, hset_2, hset_3, hset_4, hset_5, hset_6, hset_7, hset_8, hpf_s, hcl_s, hai_s, hpi_0, hpi_1, hln_0, hln_1, List.length_cons, List.length_nil, xwr_1, xwr_2, xnew_1, xnew_n, xnew_s, xnew_z, Nat.reduceLT, ite_true, and_self, hp_8_0, hp_8_1, hn_8_1, hp_8_2, hn_8_2, hp_9_0, hp_9_1, hp_9_2, hp_9_3, hp_9_4, hp_9_5, hn_9_5, hp_9_6, hn_9_6, hp_9_7, hn_9_7, hp_10_0, hp_10_1, hp_10_2, hn_10_2, hp_10_3, hn_10_3, hp_11_0, hp_12_0, hn_12_0, hp_12_1, hp_12_2, hp_12_3, hp_12_4, hp_12_5, hn_12_5, hp_12_6, hn_12_6, hp_12_7, hp_12_8, hp_13_0, hn_13_0, hp_13_1, hp_13_2, hp_13_3, hp_14_0, hn_14_0, hp_14_1, hp_14_2, hp_14_3, xdef_8, xdef_9, xdef_10, xdef_11, xdef_12, xdef_13, xdef_14, Gk_v, Gk_n, xcat_nil, xcat_i, xcat_r, xcat_l, xcat_d, Nat.zero_le, Nat.reduceAdd, Nat.reduceLeDiff, true_and, and_true, ykl_i, ykl_r, ykl_n, ykl_l]
  exact H τ3 true ⟨R2, cv, yI Y.2.2, yI Y.1, Y.2.1, min 8 (k + 1), ypush D E, -1, yI Y.1, W3, ((G1.trans Z0 G2).trans Z0 G3).mono (by omega) (by omega), Or.inl ⟨rfl, rfl, rfl⟩⟩ _ _ _ _ _ _ _ _ _ _ _ _ _ _ _ _ _ _ _ _
end

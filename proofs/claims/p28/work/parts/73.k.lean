/-! ===== the law's own strips: a frame is sent ===== -/
theorem pneg1 {n : Nat} {x : Int32} (h : n < 2147483648) : (yI n < 0) = False := by
  apply eq_false
  intro q
  have h1 := Int32.lt_iff_toInt_lt.mp q
  rw [yI_toInt h] at h1
  have e0 : (0 : Int32).toInt = 0 := rfl
  omega
section
variable {d s : Nat} {cv : Value} {dn en : Int32} {lo hi : Nat}
theorem l_143a {l a1 a2 n : Nat} {σ0 : xS} {D0 : yD} (hl : l < 256) (Z0 : pZ σ0) (V0 : pcv σ0 cv D0) (ha1 : σ0.2.1.1 ≤ a1) (ha : a1 < a2) (hh : hi ≤ σ0.2.1.1) {l5 l6 : Option Value} :
    ∀ m p (σ : xS) (R : pR) (D : yD) (c1 c2 : Nat → Int32) (c' s' : Nat), yDok D → D.n = n → D.lv = yI l → (D.cn = D0.cn ∧ D.cg = D0.cg) → pS σ s R D cv dn en → pZ σ → pJ lo hi s R D → pnx R n a1 → pnx R n a2 → σ.1 a1 = some (pints n c1) → σ.1 a2 = some (pints n c2) → (∀ q, q < p → D.bp q = false → c2 (pct D q) = yI q) → pF (pP lo hi σ0) c' s' σ0 σ → σ.2.1.1 + m < 900000 → p + m = n →
    ∃ τ R' c1' c2', Gg (d + 6) 143 14 [some (.ref s), some (.ref a1), some (.ref a2), some (.int (yI (pct D p))), some (.int (yI p)), l5, l6] [] σ 51 [some (.ref s), some (.ref a1), some (.ref a2), some (.int (yI (pct D n))), some (.int (yI n)), l5, l6] [] τ ∧ (pS τ s R' (ydl l m p D) cv dn en ∧ (pZ τ ∧ (pJ lo hi s R' (ydl l m p D) ∧ ((pnx R' n a1 ∧ pnx R' n a2) ∧ (τ.1 a1 = some (pints n c1') ∧ (τ.1 a2 = some (pints n c2') ∧ ((∀ q, q < n → D.bp q = false → c2' (pct D q) = yI q) ∧ pF (pP lo hi σ0) (c' + m) (s' + 3 * m) σ0 τ))))))) := by
  intro m
  induction m with
  | zero =>
    intro p σ R D c1 c2 c' s' hD hn hlv hcc S Z J x1 x2 h1 h2 hc F hr hp
    have e : p = n := by omega
    subst e
    have o1 := S.ob
    obtain ⟨gg, e1, e2⟩ := S.lrow
    rw [hn] at e1
    refine ⟨σ, R, c1, c2, fun Q => ?_, S, Z, J, ⟨x1, x2⟩, h1, h2, hc, F⟩
    rw [s_143_14]
    simp only [s_143_15, s_143_16, s_143_17, s_143_18, o1, e1, hln_r S.lr0 (show 4 ≤ 6 ∧ 6 ≤ 8 by decide), Int32.le_refl, if_true, hgf_s, hsel_0, hsel_1, hsel_2, hsel_3, hsel_4, hsel_5, hsel_6, hsel_7, hsel_8, hset_0, hset_1, hset_2, hset_3, hset_4, hset_5, hset_6, hset_7, hset_8, hpf_s, hcl_s, hai_s, hpi_0, hpi_1, hln_0, hln_1, List.length_cons, List.length_nil, xwr_1, xwr_2, xnew_1, xnew_n, xnew_s, xnew_z, Nat.reduceLT, ite_true, and_self, hp_8_0, hp_8_1, hn_8_1, hp_8_2, hn_8_2, hp_9_0, hp_9_1, hp_9_2, hp_9_3, hp_9_4, hp_9_5, hn_9_5, hp_9_6, hn_9_6, hp_9_7, hn_9_7, hp_10_0, hp_10_1, hp_10_2, hn_10_2, hp_10_3, hn_10_3, hp_11_0, hp_12_0, hn_12_0, hp_12_1, hp_12_2, hp_12_3, hp_12_4, hp_12_5, hn_12_5, hp_12_6, hn_12_6, hp_12_7, hp_12_8, hp_13_0, hn_13_0, hp_13_1, hp_13_2, hp_13_3, hp_14_0, hn_14_0, hp_14_1, hp_14_2, hp_14_3, xdef_8, xdef_9, xdef_10, xdef_11, xdef_12, xdef_13, xdef_14, Gk_v, Gk_n, xcat_nil, xcat_i, xcat_r, xcat_l, xcat_d, Nat.zero_le, Nat.reduceAdd, Nat.reduceLeDiff, true_and, and_true, ykl_i, ykl_r, ykl_n, ykl_l]
  | succ m ih =>
    intro p σ R D c1 c2 c' s' hD hn hlv hcc S Z J x1 x2 h1 h2 hc F hr hp
    have hn40 := hD.n40
    have hpn : p < D.n := by omega
    have z1 : ¬ yI D.n ≤ yI p := fun h => absurd ((yI_le (by omega) (by omega)).mp h) (by omega)
    have z4 : yI p + 1 = yI (p + 1) := yI_add
    have c3 : yix (yI p) n := yix_I (by omega) (by omega)
    have c3' : yix (yI p) D.n := yix_I (by omega) (by omega)
    have c4 : (yI p).toNatClampNeg = p := yI_clamp (by omega)
    have hpc := pct_le (D := D) (p := p)
    have c5 : yix (yI (pct D p)) n := yix_I (by omega) (by omega)
    have c6 : (yI (pct D p)).toNatClampNeg = pct D p := yI_clamp (by omega)
    have hlt1 := pZ_lt Z h1
    have hlt2 := pZ_lt Z h2
    have n9 : σ.2.1.1 < 1000000 := by omega
    have a19 : a1 < 1000000 := by omega
    have a29 : a2 < 1000000 := by omega
    have p1 : ¬ pin lo hi a1 := fun q => by have := q.2; omega
    have p2 : ¬ pin lo hi a2 := fun q => by have := q.2; omega
    -- from[p] = -1
    have S1 : pS (xwr σ a1 (pints n (upd c1 p (-1)))) s R D cv dn en := S.wr J p1 (by rw [hn]; exact x1)
    have Z1 := pZ_wr Z h1 (e' := pints n (upd c1 p (-1)))
    have F1 := pF_hi F Z h1 ha1 (e' := pints n (upd c1 p (-1)))
    have q11 : (xwr σ a1 (pints n (upd c1 p (-1)))).1 a1 = some (pints n (upd c1 p (-1))) := by rw [xwr_1, if_pos rfl]
    have q12 : (xwr σ a1 (pints n (upd c1 p (-1)))).1 a2 = some (pints n c2) := by rw [xwr_1, if_neg (by omega)]; exact h2
    obtain ⟨σ1, e1⟩ : ∃ σ1, σ1 = xwr σ a1 (pints n (upd c1 p (-1))) := ⟨_, rfl⟩
    have nx1 : σ1.2.1.1 = σ.2.1.1 := by rw [e1]; rfl
    rw [← e1] at S1 Z1 F1 q11 q12
    -- the due color
    have V1 : pcv σ1 cv D := by
      have := pcv_no V0 (pF_co F1 Z0)
      unfold pcv at this ⊢
      rw [hcc.1, hcc.2]
      exact this
    obtain ⟨σ2, k2, F2', cb, pb⟩ := m_135 (d := d) S1 hD Z1 V1 (S1.fm hpn).1 hl (by omega)
    rw [nx1] at k2 cb
    have S2 := S1.no Z1 F2'
    have Z2 := pZ_F Z1 F2'
    have F2 := pF_rd F1 F2'
    have q21 := pF_keep Z1 F2' q11 id
    have q22 := pF_keep Z1 F2' q12 id
    have nx2 := F2'.2.2.1
    rw [nx1] at nx2
    have lc2 := (S2.2.2.1 p hpn).2
    have S3 := S2.lamp J hpn (R' := R.sdu (pup R.du p σ.2.1.1)) (D' := D.sdu (upd D.du p (ydueC D.cn D.cg l (D.fm p)))) ⟨rfl, rfl, rfl, rfl⟩ ⟨rfl, rfl, rfl, rfl, rfl, rfl, rfl, rfl⟩ (fun q hq => ⟨rfl, rfl, rfl, rfl, rfl, rfl, yupd_ne hq, rfl, rfl, pup_ne hq, rfl⟩) ⟨S2.tk hpn, ⟨by show pC σ2 (pup R.du p σ.2.1.1 p) (upd D.du p _ p); rw [pup_same, yupd_same]; exact cb, by show pcol (upd D.du p _ p); rw [yupd_same]; exact pb⟩, S2.fm hpn⟩
    have ev : plamp ((D.sdu (upd D.du p (ydueC D.cn D.cg l (D.fm p)))).kd p) ((D.sdu (upd D.du p (ydueC D.cn D.cg l (D.fm p)))).pd p) (yb ((D.sdu (upd D.du p (ydueC D.cn D.cg l (D.fm p)))).bp p)) ((D.sdu (upd D.du p (ydueC D.cn D.cg l (D.fm p)))).fr p) ((D.sdu (upd D.du p (ydueC D.cn D.cg l (D.fm p)))).og p) ((R.sdu (pup R.du p σ.2.1.1)).tk p) ((R.sdu (pup R.du p σ.2.1.1)).du p) ((R.sdu (pup R.du p σ.2.1.1)).fm p) = plamp (D.kd p) (D.pd p) (yb (D.bp p)) (D.fr p) (D.og p) (R.tk p) σ.2.1.1 (R.fm p) := by
      show plamp _ _ _ _ _ _ (pup R.du p σ.2.1.1 p) _ = _
      rw [pup_same]
      rfl
    rw [ev] at S3
    have Z3 := pZ_wr Z2 lc2 (e' := plamp (D.kd p) (D.pd p) (yb (D.bp p)) (D.fr p) (D.og p) (R.tk p) σ.2.1.1 (R.fm p))
    have F3 := pF_own F2 Z2 lc2 pco_lamp (J.2.2.2.1.1 p hpn) (e' := plamp (D.kd p) (D.pd p) (yb (D.bp p)) (D.fr p) (D.og p) (R.tk p) σ.2.1.1 (R.fm p))
    have lne1 : a1 ≠ R.lm p := fun q => p1 (q ▸ J.2.2.2.1.1 p hpn)
    have lne2 : a2 ≠ R.lm p := fun q => p2 (q ▸ J.2.2.2.1.1 p hpn)
    have q31 : (xwr σ2 (R.lm p) (plamp (D.kd p) (D.pd p) (yb (D.bp p)) (D.fr p) (D.og p) (R.tk p) σ.2.1.1 (R.fm p))).1 a1 = some (pints n (upd c1 p (-1))) := by rw [xwr_1, if_neg lne1]; exact q21
    have q32 : (xwr σ2 (R.lm p) (plamp (D.kd p) (D.pd p) (yb (D.bp p)) (D.fr p) (D.og p) (R.tk p) σ.2.1.1 (R.fm p))).1 a2 = some (pints n c2) := by rw [xwr_1, if_neg lne2]; exact q22
    obtain ⟨σ3, e3⟩ : ∃ σ3, σ3 = xwr σ2 (R.lm p) (plamp (D.kd p) (D.pd p) (yb (D.bp p)) (D.fr p) (D.og p) (R.tk p) σ.2.1.1 (R.fm p)) := ⟨_, rfl⟩
    have nx3 : σ3.2.1.1 = σ2.2.1.1 := by rw [e3]; rfl
    rw [← e3] at S3 Z3 F3 q31 q32
    have J3 : pJ lo hi s (R.sdu (pup R.du p σ.2.1.1)) (D.sdu (upd D.du p (ydueC D.cn D.cg l (D.fm p)))) := J.to ⟨rfl, rfl, rfl, rfl⟩ rfl rfl
    have x31 : pnx (R.sdu (pup R.du p σ.2.1.1)) n a1 := fun q hq => by
      obtain ⟨y1, y2, y3⟩ := x1 q hq
      refine ⟨y1, ?_, y3⟩
      show pup R.du p σ.2.1.1 q ≠ a1
      unfold pup
      split
      · omega
      · exact y2
    have x32 : pnx (R.sdu (pup R.du p σ.2.1.1)) n a2 := fun q hq => by
      obtain ⟨y1, y2, y3⟩ := x2 q hq
      refine ⟨y1, ?_, y3⟩
      show pup R.du p σ.2.1.1 q ≠ a2
      unfold pup
      split
      · omega
      · exact y2
    have hD3 : yDok (D.sdu (upd D.du p (ydueC D.cn D.cg l (D.fm p)))) := yDok_sdu hD
    have o0 := S.ob
    have o1 := S1.ob
    have o3 := S3.ob
    obtain ⟨g0, u0, v0⟩ := S.lrow
    obtain ⟨g1, u1, v1⟩ := S1.lrow
    obtain ⟨g3, u3, v3⟩ := S3.lrow
    have l01 := S1.lm1 hpn
    have lo1 := S.lm0 hpn
    have l03 : xRd σ3 (R.lm p) = some (plamp (D.kd p) (D.pd p) (yb (D.bp p)) (D.fr p) (D.og p) (R.tk p) σ.2.1.1 (R.fm p)) := by
      rw [yrd_lt lo1, e3, xwr_1, if_pos rfl]
    have hlr := S.lr0
    have w1 : ∀ Q, G (d + 6) 143 14 [some (.ref s), some (.ref a1), some (.ref a2), some (.int (yI (pct D p))), some (.int (yI p)), l5, l6] [] σ Q ↔ G (d + 6) 143 23 [some (.ref s), some (.ref a1), some (.ref a2), some (.int (yI (pct D p))), some (.int (yI p)), l5, l6] [] σ1 Q := by
      intro Q
      rw [e1, s_143_14]
      simp only [s_143_15, s_143_16, s_143_17, s_143_18, s_143_19, s_143_20, s_143_21, s_143_22, o0, u0, hln_r hlr (show 4 ≤ 6 ∧ 6 ≤ 8 by decide), z1, if_false, h1, a19, c3, c4, pints, hgf_s, hsel_0, hsel_1, hsel_2, hsel_3, hsel_4, hsel_5, hsel_6, hsel_7, hsel_8, hset_0, hset_1, hset_2, hset_3, hset_4, hset_5, hset_6, hset_7, hset_8, hpf_s, hcl_s, hai_s, hpi_0, hpi_1, hln_0, hln_1, List.length_cons, List.length_nil, xwr_1, xwr_2, xnew_1, xnew_n, xnew_s, xnew_z, Nat.reduceLT, ite_true, and_self, hp_8_0, hp_8_1, hn_8_1, hp_8_2, hn_8_2, hp_9_0, hp_9_1, hp_9_2, hp_9_3, hp_9_4, hp_9_5, hn_9_5, hp_9_6, hn_9_6, hp_9_7, hn_9_7, hp_10_0, hp_10_1, hp_10_2, hn_10_2, hp_10_3, hn_10_3, hp_11_0, hp_12_0, hn_12_0, hp_12_1, hp_12_2, hp_12_3, hp_12_4, hp_12_5, hn_12_5, hp_12_6, hn_12_6, hp_12_7, hp_12_8, hp_13_0, hn_13_0, hp_13_1, hp_13_2, hp_13_3, hp_14_0, hn_14_0, hp_14_1, hp_14_2, hp_14_3, xdef_8, xdef_9, xdef_10, xdef_11, xdef_12, xdef_13, xdef_14, Gk_v, Gk_n, xcat_nil, xcat_i, xcat_r, xcat_l, xcat_d, Nat.zero_le, Nat.reduceAdd, Nat.reduceLeDiff, true_and, and_true, ykl_i, ykl_r, ykl_n, ykl_l]
    have w2 : ∀ Q, G (d + 6) 143 23 [some (.ref s), some (.ref a1), some (.ref a2), some (.int (yI (pct D p))), some (.int (yI p)), l5, l6] [] σ1 Q ↔ G (d + 6) 143 37 [some (.ref s), some (.ref a1), some (.ref a2), some (.int (yI (pct D p))), some (.int (yI p)), l5, l6] [] σ3 Q := by
      intro Q
      rw [e3]
      simp only [s_143_23, s_143_24, s_143_25, s_143_26, s_143_27, s_143_28, s_143_29, s_143_30, s_143_31, s_143_32, s_143_33, s_143_34, s_143_35, s_143_36, o1, u1, v1 p hpn, l01, lo1, haa_t hlr (show 4 ≤ 6 ∧ 6 ≤ 8 by decide), c3', c4, hop_s, hlv, k2 _, lc2, plamp, hgf_s, hsel_0, hsel_1, hsel_2, hsel_3, hsel_4, hsel_5, hsel_6, hsel_7, hsel_8, hset_0, hset_1, hset_2, hset_3, hset_4, hset_5, hset_6, hset_7, hset_8, hpf_s, hcl_s, hai_s, hpi_0, hpi_1, hln_0, hln_1, List.length_cons, List.length_nil, xwr_1, xwr_2, xnew_1, xnew_n, xnew_s, xnew_z, Nat.reduceLT, ite_true, and_self, hp_8_0, hp_8_1, hn_8_1, hp_8_2, hn_8_2, hp_9_0, hp_9_1, hp_9_2, hp_9_3, hp_9_4, hp_9_5, hn_9_5, hp_9_6, hn_9_6, hp_9_7, hn_9_7, hp_10_0, hp_10_1, hp_10_2, hn_10_2, hp_10_3, hn_10_3, hp_11_0, hp_12_0, hn_12_0, hp_12_1, hp_12_2, hp_12_3, hp_12_4, hp_12_5, hn_12_5, hp_12_6, hn_12_6, hp_12_7, hp_12_8, hp_13_0, hn_13_0, hp_13_1, hp_13_2, hp_13_3, hp_14_0, hn_14_0, hp_14_1, hp_14_2, hp_14_3, xdef_8, xdef_9, xdef_10, xdef_11, xdef_12, xdef_13, xdef_14, Gk_v, Gk_n, xcat_nil, xcat_i, xcat_r, xcat_l, xcat_d, Nat.zero_le, Nat.reduceAdd, Nat.reduceLeDiff, true_and, and_true, ykl_i, ykl_r, ykl_n, ykl_l]
    have u3' : xRd σ3 R.lr = some (prow 6 D.n g3) := u3
    have v3' : ∀ p, p < D.n → g3 p = some (R.lm p) := v3
    have o3' : xRd σ3 s = some (.inr (12, [.ref R.lr, .int D.un, .int D.lv, .int D.sh, .int D.ac, .ref R.fr, cv, .int dn, .int en])) := o3
    cases hb : D.bp p
    · have S4 : pS (xwr σ3 a2 (pints n (upd c2 (pct D p) (yI p)))) s (R.sdu (pup R.du p σ.2.1.1)) (D.sdu (upd D.du p (ydueC D.cn D.cg l (D.fm p)))) cv dn en := S3.wr J3 p2 (by show pnx _ D.n a2; rw [hn]; exact x32)
      have Z4 := pZ_wr Z3 q32 (e' := pints n (upd c2 (pct D p) (yI p)))
      have F4 := pF_hi F3 Z3 q32 (by omega) (e' := pints n (upd c2 (pct D p) (yI p)))
      obtain ⟨τ, R', c1', c2', i1, i2, i3, i4, i5, i6, i7, i8, i9⟩ := ih (p + 1) _ _ _ (upd c1 p (-1)) (upd c2 (pct D p) (yI p)) _ _ hD3 hn hlv hcc S4 Z4 J3 x31 x32 (by rw [xwr_1, if_neg (by omega)]; exact q31) (by rw [xwr_1, if_pos rfl]) (fun q hq hqb => by
        show upd c2 (pct D p) (yI p) (pct D q) = yI q
        by_cases hqp : q = p
        · subst hqp; rw [yupd_same]
        · have := pct_lt (D := D) (p := q) (q := p) (by omega) hqb
          rw [yupd_ne (by omega)]
          exact hc q (by omega) hqb) F4 (by show σ3.2.1.1 + m < 900000; omega) (by omega)
      refine ⟨τ, R', c1', c2', fun Q => ?_, i2, i3, i4, i5, i6, i7, i8, i9.mono (fun _ _ q => q) (by omega) (by omega)⟩
      have j1 := i1 Q
      have z5 : yI (pct D p) + 1 = yI (pct D p + 1) := yI_add
      have z6 : pct (D.sdu (upd D.du p (ydueC D.cn D.cg l (D.fm p)))) (p + 1) = pct D p + 1 := pct_n hb
      rw [z6] at j1
      refine (w1 Q).trans ((w2 Q).trans ?_)
      refine Iff.trans ?_ j1
      simp only [s_143_37, s_143_38, s_143_39, s_143_40, s_143_41, s_143_42, s_143_43, s_143_44, s_143_45, s_143_46, s_143_47, s_143_48, s_143_49, s_143_50, o3', u3', v3' p hpn, l03, lo1, haa_t hlr (show 4 ≤ 6 ∧ 6 ≤ 8 by decide), c3', c4, c5, c6, hop_s, hb, plamp, ifb, ifbn, Bool.false_eq_true, if_true, if_false, q32, a29, z4, z5, yb, pints, hgf_s, hsel_0, hsel_1, hsel_2, hsel_3, hsel_4, hsel_5, hsel_6, hsel_7, hsel_8, hset_0, hset_1, hset_2, hset_3, hset_4, hset_5, hset_6, hset_7, hset_8, hpf_s, hcl_s, hai_s, hpi_0, hpi_1, hln_0, hln_1, List.length_cons, List.length_nil, xwr_1, xwr_2, xnew_1, xnew_n, xnew_s, xnew_z, Nat.reduceLT, ite_true, and_self, hp_8_0, hp_8_1, hn_8_1, hp_8_2, hn_8_2, hp_9_0, hp_9_1, hp_9_2, hp_9_3, hp_9_4, hp_9_5, hn_9_5, hp_9_6, hn_9_6, hp_9_7, hn_9_7, hp_10_0, hp_10_1, hp_10_2, hn_10_2, hp_10_3, hn_10_3, hp_11_0, hp_12_0, hn_12_0, hp_12_1, hp_12_2, hp_12_3, hp_12_4, hp_12_5, hn_12_5, hp_12_6, hn_12_6, hp_12_7, hp_12_8, hp_13_0, hn_13_0, hp_13_1, hp_13_2, hp_13_3, hp_14_0, hn_14_0, hp_14_1, hp_14_2, hp_14_3, xdef_8, xdef_9, xdef_10, xdef_11, xdef_12, xdef_13, xdef_14, Gk_v, Gk_n, xcat_nil, xcat_i, xcat_r, xcat_l, xcat_d, Nat.zero_le, Nat.reduceAdd, Nat.reduceLeDiff, true_and, and_true, ykl_i, ykl_r, ykl_n, ykl_l]
    · obtain ⟨τ, R', c1', c2', i1, i2, i3, i4, i5, i6, i7, i8, i9⟩ := ih (p + 1) _ _ _ (upd c1 p (-1)) c2 _ _ hD3 hn hlv hcc S3 Z3 J3 x31 x32 q31 q32 (fun q hq hqb => by
        show c2 (pct D q) = yI q
        by_cases hqp : q = p
        · subst hqp
          have hqb' : D.bp q = false := hqb
          rw [hb] at hqb'
          cases hqb'
        · exact hc q (by omega) hqb) F3 (by omega) (by omega)
      refine ⟨τ, R', c1', c2', fun Q => ?_, i2, i3, i4, i5, i6, i7, i8, i9.mono (fun _ _ q => q) (by omega) (by omega)⟩
      have j1 := i1 Q
      have z6 : pct (D.sdu (upd D.du p (ydueC D.cn D.cg l (D.fm p)))) (p + 1) = pct D p := pct_b hb
      rw [z6] at j1
      refine (w1 Q).trans ((w2 Q).trans ?_)
      refine Iff.trans ?_ j1
      have hz : ¬ (1 : Int32) = 0 := by decide
      simp only [s_143_37, s_143_38, s_143_39, s_143_40, s_143_41, s_143_42, s_143_43, s_143_44, s_143_45, s_143_46, s_143_47, s_143_48, s_143_49, s_143_50, o3', u3', v3' p hpn, l03, lo1, haa_t hlr (show 4 ≤ 6 ∧ 6 ≤ 8 by decide), c3', c4, hop_s, hb, plamp, ifb, ifbn, hz, if_true, if_false, z4, yb, hgf_s, hsel_0, hsel_1, hsel_2, hsel_3, hsel_4, hsel_5, hsel_6, hsel_7, hsel_8, hset_0, hset_1, hset_2, hset_3, hset_4, hset_5, hset_6, hset_7, hset_8, hpf_s, hcl_s, hai_s, hpi_0, hpi_1, hln_0, hln_1, List.length_cons, List.length_nil, xwr_1, xwr_2, xnew_1, xnew_n, xnew_s, xnew_z, Nat.reduceLT, ite_true, and_self, hp_8_0, hp_8_1, hn_8_1, hp_8_2, hn_8_2, hp_9_0, hp_9_1, hp_9_2, hp_9_3, hp_9_4, hp_9_5, hn_9_5, hp_9_6, hn_9_6, hp_9_7, hn_9_7, hp_10_0, hp_10_1, hp_10_2, hn_10_2, hp_10_3, hn_10_3, hp_11_0, hp_12_0, hn_12_0, hp_12_1, hp_12_2, hp_12_3, hp_12_4, hp_12_5, hn_12_5, hp_12_6, hn_12_6, hp_12_7, hp_12_8, hp_13_0, hn_13_0, hp_13_1, hp_13_2, hp_13_3, hp_14_0, hn_14_0, hp_14_1, hp_14_2, hp_14_3, xdef_8, xdef_9, xdef_10, xdef_11, xdef_12, xdef_13, xdef_14, Gk_v, Gk_n, xcat_nil, xcat_i, xcat_r, xcat_l, xcat_d, Nat.zero_le, Nat.reduceAdd, Nat.reduceLeDiff, true_and, and_true, ykl_i, ykl_r, ykl_n, ykl_l]
end

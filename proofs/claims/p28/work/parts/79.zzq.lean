/-! ===== the law's beginning ===== -/
section
variable {s : Nat} {w : Nat × (Nat → Int32)} {z : (Nat × Nat) × (Nat × (Nat → Int32))}
theorem y0_K {b : Nat} (hb : 160 ≤ b) : y0K b = none := by
  have hp : ypos b = 0 := by
    unfold ypos
    rw [if_neg (by omega), if_neg (by omega)]
  unfold y0K
  rw [hp, if_neg (by omega)]
theorem y0_emb : ymk [] (yfil 0 160 (fun _ => none)) 160 s w = yemb (y0 ((160, s), w)) := by
  unfold ymk yemb
  refine Prod.ext ?_ rfl
  funext b
  show yfil 0 160 (fun _ => none) b = ycellT (y0 ((160, s), w)) b
  by_cases hb : b < 160
  · rw [yfil_in ⟨Nat.zero_le _, hb⟩]
    unfold yc0 ycellT
    cases hl : yla b with
    | none => rfl
    | some x =>
      rcases x with ⟨k, n⟩ | n | ⟨k, n, f⟩ | ⟨c, l⟩
      · rfl
      · rfl
      · rfl
      · have e : yfds (y0 ((0, 0), (0, fun _ => 0))) b 0 l = yfds (y0 ((160, s), w)) b 0 l := yfds_ext l (fun _ _ => rfl) (fun _ _ => rfl) (fun _ _ => rfl)
        simp only [e]
  · rw [yfil_no (by omega)]
    unfold ycellT
    rw [yla_no (by omega)]
    exact (y0_K (by omega)).symm
theorem y0_W : yW (y0 z) 7 (yD0 1 1) := by
  refine ⟨yD0_ok (by decide) (by decide) (by decide) (by decide), yO_7, rfl, rfl, rfl, rfl, rfl, rfl, rfl, ⟨rfl, show 18 < 900000 from (by decide)⟩, rfl, fun p _ => rfl, fun p _ => rfl, fun p _ => rfl, fun p _ => rfl, fun p _ => rfl, fun p _ => rfl, fun p hp => if_pos hp, fun g hg => rfl, fun g hg => ?_⟩
  rw [yD0_f] at hg
  obtain rfl : g = 0 := by omega
  rfl
theorem y0_C : yCI (y0 z) (yD0 1 1) 0 (fun _ => yD0 1 1) none none 0 (fun _ => 0) (-1) 0 :=
  ⟨y0_W, ⟨0, ⟨by decide, by decide⟩, ⟨rfl, rfl⟩, fun j hj => absurd hj (Nat.not_lt_zero _)⟩, ⟨⟨rfl, rfl⟩, fun E h => (by cases h), fun E h => (by cases h)⟩, ⟨by decide, rfl, fun i hi => absurd hi (Nat.not_lt_zero _)⟩, rfl, rfl⟩
theorem pI_0 : pI (yemb (y0 ((160, s), w))) (yD0 1 1) 0 (fun _ => yD0 1 1) none none 0 (fun _ => 0) (-1) 0 :=
  ⟨_, rfl, y0_C, Nat.le_refl _, fun _ hr => y0_K hr⟩
end
/-- one good pixel that isn't bypassed -/
def pj1 (D : yD) : Prop := D.n = 1 ∧ (D.bw = 0 ∧ D.kd 0 = 0)
theorem pj1_show {D : yD} (h : pj1 D) : pj1 (yshowD D) ∧ (yshowD D).tk 0 = (yshowD D).du 0 := by
  obtain ⟨h1, h2, h3⟩ := h
  obtain ⟨f, hf⟩ := ydue_sdu D
  have e : ypassD (ydue D) = ytkS (D.sdu f) 0 (f 0) (yI 0) := by
    rw [hf]
    unfold ypassD
    have n1 : (D.sdu f).n = 1 := h1
    have b0 : (D.sdu f).bp 0 = false := by
      show D.bw.testBit 0 = false
      rw [h2]
      rfl
    have k0 : ¬ (D.sdu f).kd 0 = 1 := by
      show ¬ D.kd 0 = 1
      rw [h3]
      decide
    have x0 : ynx (D.sdu f).bp 1 0 = 0 := by
      show (if (D.sdu f).bp 0 = true then ynx (D.sdu f).bp 0 1 else 0) = 0
      rw [b0, if_neg (by decide)]
    rw [n1, x0]
    show (if (D.sdu f).bp 0 = true then _ else if 0 < (D.sdu f).n then (if (D.sdu f).kd 0 = 1 then _ else ygo 0 1 _ (ytkS (D.sdu f) 0 ((D.sdu f).du 0) (yI 0))) else _) = _
    rw [b0, if_neg (by decide), n1, if_pos (by decide), if_neg k0]
    rfl
  unfold yshowD
  rw [e]
  refine ⟨⟨h1, h2, h3⟩, ?_⟩
  show upd D.tk 0 (f 0) 0 = f 0
  exact yupd_same
theorem pj1_wr {D : yD} (h : pj1 D) (e : D.tk 0 = D.du 0) : ywrongs D = 0 := by
  obtain ⟨h1, h2, h3⟩ := h
  have o : yout D 0 = false := by
    unfold yout
    rw [h3]
    decide
  have w : ywrong D 0 = false := by
    unfold ywrong
    rw [o, e]
    simp
  unfold ywrongs
  rw [h1]
  show (if ywrong D 0 = true then (0 : Int32) + 1 else 0) = 0
  rw [w, if_neg (by decide)]
theorem pj1_shows : ∀ m (D : yD), pj1 D → D.tk 0 = D.du 0 → ywrongs (yshows m D) = 0 := by
  intro m
  induction m with
  | zero => intro D h e; exact pj1_wr h e
  | succ m ih =>
    intro D h _
    obtain ⟨h1, h2⟩ := pj1_show h
    exact ih _ h1 h2
theorem xRd_scr {σ : xS} : xRd σ 1000000 = some (.inl (0, (σ.2.2.1, .inl σ.2.2.2))) := by
  unfold xRd xExt
  rw [if_neg (by decide), if_pos rfl]
section
variable {d : Nat} {σ τ : xS} {c x : Nat} {Q : xR → xS → Prop}
theorem m_130 {r : Nat} {x y : Int32} (hr : r < 1000000) (h : σ.1 r = some (.inr (11, [.int y]))) : Ra d 130 [.ref r, .int x] σ (.inl none) (xwr σ r (.inr (11, [.int x]))) := by
  intro Q
  have h0 : xRd σ r = some (.inr (11, [.int y])) := by rw [yrd_lt hr, h]
  show G d 130 0 [some (.ref r), some (.int x)] [] σ Q ↔ _
  simp only [s_130_0, s_130_1, s_130_2, s_130_3, s_130_4, s_130_5, h0, h, hr, hgf_s, hsel_0, hsel_1, hsel_2, hsel_3, hsel_4, hsel_5, hsel_6, hsel_7, hsel_8, hset_0, hset_1, hset_2, hset_3, hset_4, hset_5, hset_6, hset_7, hset_8, hpf_s, hcl_s, hai_s, hpi_0, hpi_1, hln_0, hln_1, List.length_cons, List.length_nil, xwr_1, xwr_2, xnew_1, xnew_n, xnew_s, xnew_z, Nat.reduceLT, ite_true, and_self, hp_8_0, hp_8_1, hn_8_1, hp_8_2, hn_8_2, hp_9_0, hp_9_1, hp_9_2, hp_9_3, hp_9_4, hp_9_5, hn_9_5, hp_9_6, hn_9_6, hp_9_7, hn_9_7, hp_10_0, hp_10_1, hp_10_2, hn_10_2, hp_10_3, hn_10_3, hp_11_0, hp_12_0, hn_12_0, hp_12_1, hp_12_2, hp_12_3, hp_12_4, hp_12_5, hn_12_5, hp_12_6, hn_12_6, hp_12_7, hp_12_8, hp_13_0, hn_13_0, hp_13_1, hp_13_2, hp_13_3, hp_14_0, hn_14_0, hp_14_1, hp_14_2, hp_14_3, xdef_8, xdef_9, xdef_10, xdef_11, xdef_12, xdef_13, xdef_14, Gk_v, Gk_n, xcat_nil, xcat_i, xcat_r, xcat_l, xcat_d, Nat.zero_le, Nat.reduceAdd, Nat.reduceLeDiff, true_and, and_true, ykl_i, ykl_r, ykl_n, ykl_l]
/-- buffer and chance -/
def pc0 (σ : xS) : Prop := pbz 160 σ ∧ pch σ 161
theorem pc0.keep (h : pc0 σ) (Z : pZ σ) (F : pF pcl c x σ τ) : pc0 τ :=
  ⟨pbz_keep h.1 Z F (fun q => absurd (pcl_lt q) (by decide)), pch_keep h.2 Z F (fun q => absurd (pcl_lt q) (by decide))⟩
/-- a new object of the class, a buffer, chance -/
theorem l_244_b0 (L : Nat) (xs : Nat → Int32) {i : Nat} (hi : i < 2) (hL : i < L) (hL' : L ≤ 260) : ∃ σ3 B, (pI σ3 (yD0 1 1) 0 (fun _ => yD0 1 1) none none 0 B (-1) 0 ∧ pc0 σ3) ∧ ((σ3.2.1.1 = 162 ∧ pFb 162 6158 (xs0 L xs) σ3) ∧ ∀ Q, G (d + 60) 244 4 [some (.ref 1000000), some (.int 1), some (.int (yI i)), none, none, none, none, none, none, none, none, none, none, none, none, none, none, none, none, none, none, none, none, none, none, none, none, none, none, none, none, none, none] [] (xs0 L xs) Q ↔ G (d + 60) 244 27 [some (.ref 1000000), some (.int 1), some (.int (yI i)), some (.ref 0), some (.ref 160), some (.ref 161), none, none, none, none, none, none, none, none, none, none, none, none, none, none, none, none, none, none, none, none, none, none, none, none, none, none, none] [] σ3 Q) := by
  have zi : ¬ yI L ≤ yI i := fun h => absurd ((yI_le (by omega) (by omega)).mp h) (by omega)
  have z2 : ¬ (2 : Int32) ≤ yI i := fun h => absurd ((yI_le (n := 2) (by decide) (by omega)).mp h) (by omega)
  have ix : yix (yI i) L := yix_I hL (by omega)
  have ic : (yI i).toNatClampNeg = i := yI_clamp (by omega)
  have sc0 : xRd (xs0 L xs) 1000000 = some (.inl (0, (L, .inl xs))) := xRd_scr
  obtain ⟨σ0, hσ0⟩ : ∃ σ0, σ0 = yemb (y0 ((160, 6149), (L, xs))) := ⟨_, rfl⟩
  have stA : ∀ Q, G (d + 60) 244 13 [some (.ref 1000000), some (.int 1), some (.int (yI i)), none, none, none, none, none, none, none, none, none, none, none, none, none, none, none, none, none, none, none, none, none, none, none, none, none, none, none, none, none, none] [] (xs0 L xs) Q ↔ G (d + 60) 244 17 [some (.ref 1000000), some (.int 1), some (.int (yI i)), some (.ref 0), none, none, none, none, none, none, none, none, none, none, none, none, none, none, none, none, none, none, none, none, none, none, none, none, none, none, none, none, none] [] σ0 Q := by
    intro Q
    have e0 : xs0 L xs = ymk [] (fun _ => none) 0 0 (L, xs) := rfl
    rw [e0, hσ0, ← y0_emb]
    simp only [gx_new (c := 7) f_244_13, s_244_14, gx_call1 (k' := 93) (kind := 2) (c := 7) f_244_15 (by decide) (by decide) rfl, s_244_16, m_93x, yov_s, yov_n, ycls_ok, xnf_7, Nat.reduceAdd, Nat.reduceLT, Nat.reduceEqDiff, reduceIte, if_true, if_false, Gk_v, Gk_n, xcat_nil, xcat_i, xcat_r, xcat_l, xcat_d, Nat.zero_le, Nat.reduceAdd, Nat.reduceLeDiff, true_and, and_true, ykl_i, ykl_r, ykl_n, ykl_l]
  have I0 : pI σ0 (yD0 1 1) 0 (fun _ => yD0 1 1) none none 0 (fun _ => 0) (-1) 0 := by rw [hσ0]; exact pI_0
  have n0 : σ0.2 = ((160, 6149), (L, xs)) := by rw [hσ0]; rfl
  have nn : σ0.2.1.1 = 160 := by rw [n0]
  have Z0 := I0.Z
  have F1 : pF pno 1 8 σ0 (xnew σ0 (pints 8 (fun _ => 0)) 8) := pF_new
  have Z1 := pZ_new (e := pints 8 (fun _ => 0)) (m := 8) Z0
  have b1 : (xnew σ0 (pints 8 (fun _ => 0)) 8).1 160 = some (pints 8 (fun _ => 0)) := by
    rw [xnew_1, if_pos nn.symm]
  have x1 : (xnew σ0 (pints 8 (fun _ => 0)) 8).2.1.1 = 161 := by rw [xnew_n, nn]
  have y1 : (xnew σ0 (pints 8 (fun _ => 0)) 8).2.2 = (L, xs) := by rw [xnew_z, n0]
  obtain ⟨σ1, e1⟩ : ∃ σ1, σ1 = xnew σ0 (pints 8 (fun _ => 0)) 8 := ⟨_, rfl⟩
  rw [← e1] at F1 Z1 b1 x1 y1
  have F2 : pF pno 2 9 σ0 (xnew σ1 (.inr (11, [.int 0])) 1) := pF_al F1
  have Z2 := pZ_new (e := .inr (11, [.int 0])) (m := 1) Z1
  have r2 : (xnew σ1 (.inr (11, [.int 0])) 1).1 161 = some (.inr (11, [.int 0])) := by rw [xnew_1, if_pos x1.symm]
  have b2 : (xnew σ1 (.inr (11, [.int 0])) 1).1 160 = some (pints 8 (fun _ => 0)) := by rw [xnew_1, if_neg (by omega), b1]
  have x2 : (xnew σ1 (.inr (11, [.int 0])) 1).2.1.1 = 162 := by rw [xnew_n, x1]
  have y2 : xRd (xnew σ1 (.inr (11, [.int 0])) 1) 1000000 = some (.inl (0, (L, .inl xs))) := by
    rw [xRd_scr, xnew_z, y1]
  obtain ⟨σ2, e2⟩ : ∃ σ2, σ2 = xnew σ1 (.inr (11, [.int 0])) 1 := ⟨_, rfl⟩
  rw [← e2] at F2 Z2 r2 b2 x2 y2
  have g3 := m_130 (d := d + 59) (x := xs i) (show 161 < 1000000 by decide) r2
  have F3 := pF_hi F2 Z2 r2 (e' := .inr (11, [.int (xs i)])) (by omega)
  have r3 : (xwr σ2 161 (.inr (11, [.int (xs i)]))).1 161 = some (.inr (11, [.int (xs i)])) := pwr_at
  have b3 : (xwr σ2 161 (.inr (11, [.int (xs i)]))).1 160 = some (pints 8 (fun _ => 0)) := by rw [xwr_1, if_neg (by decide), b2]
  have x3 : (xwr σ2 161 (.inr (11, [.int (xs i)]))).2.1.1 = 162 := x2
  obtain ⟨σ3, e3⟩ : ∃ σ3, σ3 = xwr σ2 161 (.inr (11, [.int (xs i)])) := ⟨_, rfl⟩
  rw [← e3] at g3 F3 r3 b3 x3
  have P0 : pFb 160 6149 (xs0 L xs) σ0 := ⟨⟨Nat.zero_le _, by rw [nn]; exact Nat.le_refl _⟩, by rw [n0]; exact Nat.le_refl _, by rw [n0]; rfl⟩
  refine ⟨σ3, fun _ => 0, ⟨pI_F I0 F3 (fun _ q => q.elim) (fun _ _ _ _ q => q), ⟨_, b3, fun _ _ => rfl⟩, by decide, _, r3⟩, ⟨x3, pFb.mono (pFb.trans P0 F3.2.2) (by decide) (by decide)⟩, fun Q => ?_⟩
  have a0 : σ0.2.1.1 < 900000 := by omega
  have a1 : σ1.2.1.1 < 900000 := by omega
  have n8 : ¬ (8 : Int32) < 0 := by decide
  have c8 : (8 : Int32).toNatClampNeg = 8 := rfl
  have m8 : (8 : Nat) ≤ 100000 := by decide
  simp only [s_244_4, s_244_5, s_244_6, s_244_7, s_244_8, s_244_9, s_244_10, s_244_11, s_244_12, sc0, hln_0, zi, z2, show ¬ (1 : Int32) = 0 from by decide, if_false, hgf_s, hsel_0, hsel_1, hsel_2, hsel_3, hsel_4, hsel_5, hsel_6, hsel_7, hsel_8, hset_0, hset_1, hset_2, hset_3, hset_4, hset_5, hset_6, hset_7, hset_8, hpf_s, hcl_s, hai_s, hpi_0, hpi_1, hln_0, hln_1, List.length_cons, List.length_nil, xwr_1, xwr_2, xnew_1, xnew_n, xnew_s, xnew_z, Nat.reduceLT, ite_true, and_self, hp_8_0, hp_8_1, hn_8_1, hp_8_2, hn_8_2, hp_9_0, hp_9_1, hp_9_2, hp_9_3, hp_9_4, hp_9_5, hn_9_5, hp_9_6, hn_9_6, hp_9_7, hn_9_7, hp_10_0, hp_10_1, hp_10_2, hn_10_2, hp_10_3, hn_10_3, hp_11_0, hp_12_0, hn_12_0, hp_12_1, hp_12_2, hp_12_3, hp_12_4, hp_12_5, hn_12_5, hp_12_6, hn_12_6, hp_12_7, hp_12_8, hp_13_0, hn_13_0, hp_13_1, hp_13_2, hp_13_3, hp_14_0, hn_14_0, hp_14_1, hp_14_2, hp_14_3, xdef_8, xdef_9, xdef_10, xdef_11, xdef_12, xdef_13, xdef_14, Gk_v, Gk_n, xcat_nil, xcat_i, xcat_r, xcat_l, xcat_d, Nat.zero_le, Nat.reduceAdd, Nat.reduceLeDiff, true_and, and_true, ykl_i, ykl_r, ykl_n, ykl_l]
  rw [stA]
  simp only [s_244_17, s_244_18, s_244_19, a0, n8, c8, m8, nn, not_false_eq_true, Nat.reduceLT, hgf_s, hsel_0, hsel_1, hsel_2, hsel_3, hsel_4, hsel_5, hsel_6, hsel_7, hsel_8, hset_0, hset_1, hset_2, hset_3, hset_4, hset_5, hset_6, hset_7, hset_8, hpf_s, hcl_s, hai_s, hpi_0, hpi_1, hln_0, hln_1, List.length_cons, List.length_nil, xwr_1, xwr_2, xnew_1, xnew_n, xnew_s, xnew_z, Nat.reduceLT, ite_true, and_self, hp_8_0, hp_8_1, hn_8_1, hp_8_2, hn_8_2, hp_9_0, hp_9_1, hp_9_2, hp_9_3, hp_9_4, hp_9_5, hn_9_5, hp_9_6, hn_9_6, hp_9_7, hn_9_7, hp_10_0, hp_10_1, hp_10_2, hn_10_2, hp_10_3, hn_10_3, hp_11_0, hp_12_0, hn_12_0, hp_12_1, hp_12_2, hp_12_3, hp_12_4, hp_12_5, hn_12_5, hp_12_6, hn_12_6, hp_12_7, hp_12_8, hp_13_0, hn_13_0, hp_13_1, hp_13_2, hp_13_3, hp_14_0, hn_14_0, hp_14_1, hp_14_2, hp_14_3, xdef_8, xdef_9, xdef_10, xdef_11, xdef_12, xdef_13, xdef_14, Gk_v, Gk_n, xcat_nil, xcat_i, xcat_r, xcat_l, xcat_d, Nat.zero_le, Nat.reduceAdd, Nat.reduceLeDiff, true_and, and_true, ykl_i, ykl_r, ykl_n, ykl_l]
  rw [← e1]
  simp only [s_244_20, a1, x1, hgf_s, hsel_0, hsel_1, hsel_2, hsel_3, hsel_4, hsel_5, hsel_6, hsel_7, hsel_8, hset_0, hset_1, hset_2, hset_3, hset_4, hset_5, hset_6, hset_7, hset_8, hpf_s, hcl_s, hai_s, hpi_0, hpi_1, hln_0, hln_1, List.length_cons, List.length_nil, xwr_1, xwr_2, xnew_1, xnew_n, xnew_s, xnew_z, Nat.reduceLT, ite_true, and_self, hp_8_0, hp_8_1, hn_8_1, hp_8_2, hn_8_2, hp_9_0, hp_9_1, hp_9_2, hp_9_3, hp_9_4, hp_9_5, hn_9_5, hp_9_6, hn_9_6, hp_9_7, hn_9_7, hp_10_0, hp_10_1, hp_10_2, hn_10_2, hp_10_3, hn_10_3, hp_11_0, hp_12_0, hn_12_0, hp_12_1, hp_12_2, hp_12_3, hp_12_4, hp_12_5, hn_12_5, hp_12_6, hn_12_6, hp_12_7, hp_12_8, hp_13_0, hn_13_0, hp_13_1, hp_13_2, hp_13_3, hp_14_0, hn_14_0, hp_14_1, hp_14_2, hp_14_3, xdef_8, xdef_9, xdef_10, xdef_11, xdef_12, xdef_13, xdef_14, Gk_v, Gk_n, xcat_nil, xcat_i, xcat_r, xcat_l, xcat_d, Nat.zero_le, Nat.reduceAdd, Nat.reduceLeDiff, true_and, and_true, ykl_i, ykl_r, ykl_n, ykl_l]
  rw [← e2]
  simp only [s_244_21, s_244_21i, s_244_22, s_244_23, s_244_24, s_244_25, s_244_26, y2, r2, ix, ic, g3 _, yrd_lt (show 161 < 1000000 by decide), Nat.reduceLT, hcl_s, true_and, hgf_s, hsel_0, hsel_1, hsel_2, hsel_3, hsel_4, hsel_5, hsel_6, hsel_7, hsel_8, hset_0, hset_1, hset_2, hset_3, hset_4, hset_5, hset_6, hset_7, hset_8, hpf_s, hcl_s, hai_s, hpi_0, hpi_1, hln_0, hln_1, List.length_cons, List.length_nil, xwr_1, xwr_2, xnew_1, xnew_n, xnew_s, xnew_z, Nat.reduceLT, ite_true, and_self, hp_8_0, hp_8_1, hn_8_1, hp_8_2, hn_8_2, hp_9_0, hp_9_1, hp_9_2, hp_9_3, hp_9_4, hp_9_5, hn_9_5, hp_9_6, hn_9_6, hp_9_7, hn_9_7, hp_10_0, hp_10_1, hp_10_2, hn_10_2, hp_10_3, hn_10_3, hp_11_0, hp_12_0, hn_12_0, hp_12_1, hp_12_2, hp_12_3, hp_12_4, hp_12_5, hn_12_5, hp_12_6, hn_12_6, hp_12_7, hp_12_8, hp_13_0, hn_13_0, hp_13_1, hp_13_2, hp_13_3, hp_14_0, hn_14_0, hp_14_1, hp_14_2, hp_14_3, xdef_8, xdef_9, xdef_10, xdef_11, xdef_12, xdef_13, xdef_14, Gk_v, Gk_n, xcat_nil, xcat_i, xcat_r, xcat_l, xcat_d, Nat.zero_le, Nat.reduceAdd, Nat.reduceLeDiff, true_and, and_true, ykl_i, ykl_r, ykl_n, ykl_l]
end

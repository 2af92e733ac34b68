/-! ===== texts are written: a letter more ===== -/
/-- what writing may touch: the class's text, the buffer, the chance -/
abbrev pXp (b r : Nat) (a : Nat) : Prop := a = 1 ∨ (a = 2 ∨ (a = b ∨ a = r))
/-- as writing began -/
def pX0 (b r : Nat) (σ0 : xS) (t0 : yT) : Prop := (σ0 = yemb t0 ∧ yZ t0) ∧ (((160 ≤ b ∧ b < 1000000) ∧ ∃ f, σ0.1 b = some (pints 8 f)) ∧ (160 ≤ r ∧ pch σ0 r))
/-- the text so far -/
def pX (b r : Nat) (σ0 : xS) (t0 : yT) (c x : Nat) (σ : xS) (l : List Nat) : Prop :=
  (∃ t, σ = yemb t ∧ ((∀ a, a ≠ 1 → a ≠ 2 → t.A a = t0.A a ∧ (t.L a = t0.L a ∧ t.R a = t0.R a)) ∧ yT1 t (20 * (l.length / 20)) (pbt l))) ∧
  ((∃ f, σ.1 b = some (pints 8 f) ∧ (f 0 = yI l.length ∧ ∀ j, j < 5 → f (1 + j) = yI (pwd l j))) ∧
  (pch σ r ∧ (pF (pXp b r) c x σ0 σ ∧ ∀ i, pbt l i < 128)))
theorem yW_K2 {t u : yT} {o : Nat} {D : yD} (W : yW t o D) (hA : ∀ a, o ≤ a → a ≤ o + 9 → u.A a = t.A a) (hL : u.L o = t.L o) (hR : u.R o = t.R o) (hK : ∀ r e, yla r = none → t.K r = some e → pco e → u.K r = some e) : yW u o D := by
  refine ⟨W.ok, yV_of W.v hA hL hR ?_⟩
  have h := W.v.cv
  rw [hK _ _ W.v.c1.1 h (pco_cv W.ok.cok), h]
section
variable {d : Nat} {D : yD} {k : Nat} {E : Nat → yD} {s0 s1 : Option yD} {n n' : Nat} {B B' : Nat → Nat} {eo en : Int32} {t t0 u : yT} {σ σ0 τ : xS} {b r c x : Nat} {l : List Nat} {P : Nat → Prop}
theorem yCI_K2 (C : yCI t D k E s0 s1 n B eo en) (hA : ∀ a, a ≠ 1 → a ≠ 2 → u.A a = t.A a ∧ (u.L a = t.L a ∧ u.R a = t.R a)) (hK : ∀ r e, yla r = none → t.K r = some e → pco e → u.K r = some e) (T : yT1 u n' B') : yCI u D k E s0 s1 n' B' eo en := by
  obtain ⟨C1, ⟨w, h12, ⟨h3, h4⟩, h5⟩, ⟨⟨b1, b2⟩, b3, b4⟩, -, e1, e2⟩ := C
  have wk : ∀ {o X}, yW t o X → 3 ≤ o → yW u o X := fun W ho => yW_K2 W (fun a g1 g2 => (hA a (by omega) (by omega)).1) (hA _ (by omega) (by omega)).2.1 (hA _ (by omega) (by omega)).2.2 hK
  have a0 := (hA 0 (by decide) (by decide)).1
  have a38 := (hA 38 (by decide) (by decide)).1
  exact ⟨wk C1 (by decide), ⟨w, h12, ⟨by rw [a38]; exact h3, by rw [a38]; exact h4⟩, fun j hj => wk (h5 j hj) (by omega)⟩, ⟨⟨by rw [a0]; exact b1, by rw [a0]; exact b2⟩, fun X hX => wk (b3 X hX) (by decide), fun X hX => wk (b4 X hX) (by decide)⟩, T, by rw [a0]; exact e1, by rw [a0]; exact e2⟩
theorem pco_8 {f : Nat → Int32} : ¬ pco (pints 8 f) := by
  rintro (⟨m, y, h4, h5⟩ | ⟨fs, h5⟩)
  · simp only [Sum.inl.injEq, Prod.mk.injEq] at h5
    omega
  · simp at h5
theorem pco_11 {fs : List Value} : ¬ pco (.inr (11, fs)) := by
  rintro (⟨m, y, h4, h5⟩ | ⟨gs, h5⟩)
  · simp at h5
  · simp at h5
theorem pX0.co (X0 : pX0 b r σ0 t0) : ∀ a e, σ0.1 a = some e → pco e → ¬ pXp b r a := by
  obtain ⟨⟨rfl, Z⟩, ⟨-, f, h1⟩, -, -, y, h2⟩ := X0
  intro a e h hc hp
  rcases hp with rfl | rfl | rfl | rfl
  · exact pcl_co h hc (by decide)
  · exact pcl_co h hc (by decide)
  · rw [h1] at h
    cases h
    exact pco_8 hc
  · rw [h2] at h
    cases h
    exact pco_11 hc
theorem pX.co (X0 : pX0 b r σ0 t0) (X : pX b r σ0 t0 c x σ l) : ∀ a e, σ.1 a = some e → pco e → ¬ pXp b r a := by
  obtain ⟨⟨t, rfl, -⟩, ⟨f, h1, -⟩, ⟨-, y, h2⟩, -⟩ := X
  intro a e h hc hp
  rcases hp with rfl | rfl | rfl | rfl
  · exact pcl_co h hc (by decide)
  · exact pcl_co h hc (by decide)
  · rw [h1] at h
    cases h
    exact pco_8 hc
  · rw [h2] at h
    cases h
    exact pco_11 hc
theorem pX.Z (X0 : pX0 b r σ0 t0) (X : pX b r σ0 t0 c x σ l) : pZ σ := by
  obtain ⟨⟨rfl, Z⟩, -⟩ := X0
  exact pZ_F (yZ_p Z) X.2.2.2.1
theorem pX.n0 (X0 : pX0 b r σ0 t0) (X : pX b r σ0 t0 c x σ l) : 160 ≤ σ.2.1.1 := by
  obtain ⟨⟨rfl, Z⟩, -⟩ := X0
  exact Nat.le_trans Z.1 X.2.2.2.1.2.2.1.1
/-- the class's state at a text so far -/
theorem pX.ci (X0 : pX0 b r σ0 t0) (C : yCI t0 D k E s0 s1 n B eo en) (X : pX b r σ0 t0 c x σ l) : ∃ t, σ = yemb t ∧ ((∀ a, a ≠ 1 → a ≠ 2 → t.A a = t0.A a ∧ (t.L a = t0.L a ∧ t.R a = t0.R a)) ∧ (yCI t D k E s0 s1 (20 * (l.length / 20)) (pbt l) eo en ∧ yZ t)) := by
  have hz := X.Z X0
  have hn := X.n0 X0
  have hco := X0.co
  obtain ⟨⟨t, rfl, hA, T⟩, -, -, F, -⟩ := X
  refine ⟨t, rfl, hA, yCI_K2 C hA (fun q e hq he hc => ?_) T, pZ_y hn hz⟩
  obtain ⟨⟨rfl, Z⟩, -⟩ := X0
  have h1 : (yemb t0).1 q = some e := by rw [yemb_no hq, he]
  have h2 := pF_keep (yZ_p Z) F h1 (hco q e h1 hc)
  rw [yemb_no hq] at h2
  exact h2
/-- steps of the law between letters -/
theorem pX.law {c' x' : Nat} (X0 : pX0 b r σ0 t0) (X : pX b r σ0 t0 c x σ l) (F : pF P c' x' σ τ) (hP : ∀ a, P a → σ0.2.1.1 ≤ a ∨ a = r) (hr : pch τ r) : pX b r σ0 t0 (c + c') (x + x') τ l := by
  have hz := X.Z X0
  obtain ⟨⟨t, rfl, hh, T⟩, ⟨f, h1, h2⟩, ⟨hr1, y, hy⟩, F0, h128⟩ := X
  obtain ⟨⟨rfl, Z⟩, ⟨⟨b1, b2⟩, f0, h0⟩, r1, hr0, y0, hy0⟩ := X0
  have hb0 := pZ_lt (yZ_p Z) h0
  have zz : 160 ≤ (yemb t0).2.1.1 := Z.1
  have e : yemb (pM t τ) = τ := pM_emb (fun a ha => F.1 a (by have := F0.2.2.1.1; omega) (fun q => by have := hP a q; omega))
  have hbr : b ≠ r := fun q => by
    rw [q, hy0] at h0
    simp at h0
  refine ⟨⟨pM t τ, e.symm, hh, T⟩, ⟨f, pF_keep hz F h1 (fun q => by have := hP b q; omega), h2⟩, hr, pF.trans F0 F (fun a ha q => ?_), h128⟩
  rcases q with q | q
  · exact q
  · rcases hP a q with g | g
    · omega
    · exact Or.inr (Or.inr (Or.inr g))
/-- an object of the law that lies elsewhere -/
theorem pXp_no {a : Nat} (h1 : 160 ≤ a) (hb : a ≠ b) (hr : a ≠ r) : ¬ pXp b r a := by
  rintro (h | h | h | h) <;> omega
/-- put -/
theorem m_179 (X0 : pX0 b r σ0 t0) (C : yCI t0 D k E s0 s1 n B eo en) (X : pX b r σ0 t0 c x σ l) {y : Nat} (hy : y < 128) (hl : l.length + 1 ≤ 600) : ∃ τ, Ra (d + 3) 179 [.ref 0, .ref b, .int (yI y)] σ (.inl none) τ ∧ (pX b r σ0 t0 c x τ (l ++ [y]) ∧ pF (pXp b r) 0 0 σ τ) := by
  have hzσ := X.Z X0
  have hn0 := X.n0 X0
  obtain ⟨t, rfl, hh, Ct, Zt⟩ := X.ci X0 C
  obtain ⟨-, ⟨f, h1, h2, h3⟩, hch, F0, h128⟩ := X
  obtain ⟨-, ⟨⟨b1, b2⟩, f0, h0⟩, r1, hr0, y0, hy0⟩ := X0
  have hbr : b ≠ r := fun q => by
    rw [q, hy0] at h0
    simp at h0
  have hbn := pZ_lt hzσ h1
  obtain ⟨q, hq⟩ : ∃ q, q = l.length % 20 := ⟨_, rfl⟩
  obtain ⟨w, hw⟩ : ∃ w, w = 20 * (l.length / 20) := ⟨_, rfl⟩
  have hlq : l.length = w + q := by omega
  have hq20 : q < 20 := by omega
  have R1 : xRd (yemb t) b = some (.inl (0, (8, .inl f))) := by rw [yrd_lt b2, h1]
  have a1 : yI l.length - yI l.length / 20 * 20 = yI q := by rw [hq]; exact yI_mod (by omega) (by decide) (by decide)
  have a2 : yI q / 4 = yI (q / 4) := yI_div (b := 4) (by omega) (by decide)
  have a3 : (1 : Int32) + yI (q / 4) = yI (1 + q / 4) := yI_add (n := 1)
  have a4 : yI l.length - yI l.length / 4 * 4 = yI (q % 4) := by
    rw [show q % 4 = l.length % 4 by omega]
    exact yI_mod (by omega) (by decide) (by decide)
  have a5 : ∀ j, j < 4 → (24 : Int32) - 8 * yI j = yI (24 - 8 * j) := by decide
  have a6 : yI l.length + 1 = yI (l.length + 1) := yI_add
  have i1 : yix (yI (1 + q / 4)) 8 := yix8_ _ (by omega)
  have i2 : (yI (1 + q / 4)).toNatClampNeg = 1 + q / 4 := yI_clamp (by omega)
  have i0 : yix 0 8 := yix8_ 0 (by decide)
  have n20 : ¬ (20 : Int32) = 0 := by decide
  have n4 : ¬ (4 : Int32) = 0 := by decide
  -- the word that gets the letter
  have hb0 : ∀ i, l.length ≤ i → pbt l i = 0 := fun i hi => pbt_hi hi
  have hwd : f (1 + q / 4) ||| (yI y <<< ((yI (24 - 8 * (q % 4))) &&& 31)) = yI (pw4 (pbt (l ++ [y]) (w + 4 * (q / 4))) (pbt (l ++ [y]) (w + 4 * (q / 4) + 1)) (pbt (l ++ [y]) (w + 4 * (q / 4) + 2)) (pbt (l ++ [y]) (w + 4 * (q / 4) + 3))) := by
    rw [h3 (q / 4) (by omega)]
    unfold pwd
    rw [← hw, pword (h128 _) (h128 _) (h128 _) (h128 _) hy (Nat.mod_lt _ (by decide)) (fun g => ⟨hb0 _ (by omega), hb0 _ (by omega), hb0 _ (by omega), hb0 _ (by omega)⟩) (fun g => ⟨hb0 _ (by omega), hb0 _ (by omega), hb0 _ (by omega)⟩) (fun g => ⟨hb0 _ (by omega), hb0 _ (by omega)⟩) (fun g => hb0 _ (by omega))]
    refine congrArg yI ?_
    rw [pbt_app, pbt_app, pbt_app, pbt_app]
    have e0 : (q % 4 = 0) = (w + 4 * (q / 4) = l.length) := propext ⟨fun g => by omega, fun g => by omega⟩
    have e1 : (q % 4 = 1) = (w + 4 * (q / 4) + 1 = l.length) := propext ⟨fun g => by omega, fun g => by omega⟩
    have e2 : (q % 4 = 2) = (w + 4 * (q / 4) + 2 = l.length) := propext ⟨fun g => by omega, fun g => by omega⟩
    have e3 : (q % 4 = 3) = (w + 4 * (q / 4) + 3 = l.length) := propext ⟨fun g => by omega, fun g => by omega⟩
    simp only [e0, e1, e2, e3]
  have h128' : ∀ i, pbt (l ++ [y]) i < 128 := fun i => by
    rw [pbt_app]
    split
    · exact hy
    · exact h128 i
  obtain ⟨g, hg⟩ : ∃ g, g = upd (upd f (1 + q / 4) (f (1 + q / 4) ||| (yI y <<< ((yI (24 - 8 * (q % 4))) &&& 31)))) 0 (yI (l.length + 1)) := ⟨_, rfl⟩
  have g0 : g 0 = yI (l.length + 1) := by rw [hg]; exact yupd_same
  have gw : ∀ j, j < 5 → g (1 + j) = yI (pw4 (pbt (l ++ [y]) (w + 4 * j)) (pbt (l ++ [y]) (w + 4 * j + 1)) (pbt (l ++ [y]) (w + 4 * j + 2)) (pbt (l ++ [y]) (w + 4 * j + 3))) := fun j hj => by
    rw [hg, yupd_ne (by omega)]
    by_cases hjq : j = q / 4
    · rw [hjq, yupd_same]
      exact hwd
    · rw [yupd_ne (by omega), h3 j hj]
      unfold pwd
      rw [← hw, pbt_app, pbt_app, pbt_app, pbt_app, if_neg (by omega), if_neg (by omega), if_neg (by omega), if_neg (by omega)]
  have Zσ1 := pZ_wr hzσ h1 (e' := pints 8 g)
  have F1 : pF (pXp b r) 0 0 (yemb t) (xwr (yemb t) b (pints 8 g)) := pF_wr hbn (Or.inr (Or.inr (Or.inl rfl)))
  have E1 : yemb (pM t (xwr (yemb t) b (pints 8 g))) = xwr (yemb t) b (pints 8 g) := pM_emb (fun a ha => by rw [xwr_1, if_neg (by omega)])
  have c1 : (xwr (yemb t) b (pints 8 g)).1 b = some (pints 8 g) := pwr_at
  have ch1 : pch (xwr (yemb t) b (pints 8 g)) r := by
    obtain ⟨p1, p2, p3⟩ := hch
    exact ⟨p1, p2, by rw [xwr_1, if_neg (fun e => hbr e.symm), p3]⟩
  have C1 : yCI (pM t (xwr (yemb t) b (pints 8 g))) D k E s0 s1 (20 * (l.length / 20)) (pbt l) eo en := by
    refine pM_K (fun a e ha hc => ?_) Ct
    rw [xwr_1, if_neg (fun e' => ?_)]
    · exact ha
    · rw [e', h1] at ha
      cases ha
      exact pco_8 hc
  have T1 : yT1 (pM t (xwr (yemb t) b (pints 8 g))) (20 * (l.length / 20)) (pbt l) := C1.2.2.2.1
  have step : ∀ Q, G (d + 3) 179 0 [some (.ref 0), some (.ref b), some (.int (yI y))] [] (yemb t) Q ↔ G (d + 3) 179 32 [some (.ref 0), some (.ref b), some (.int (yI y))] [] (xwr (yemb t) b (pints 8 g)) Q := by
    intro Q
    have w0 : ∀ e, xRd (xwr (yemb t) b e) b = some e := fun e => by rw [yrd_lt b2, pwr_at]
    have u0 : ∀ v, upd f (1 + q / 4) v 0 = yI l.length := fun v => by rw [yupd_ne (by omega), h2]
    have eg : upd (upd f (1 + q / 4) (f (1 + q / 4) ||| (yI y <<< ((yI (24 - 8 * (q % 4))) &&& 31)))) 0 (yI (l.length + 1)) = g := hg.symm
    simp only [s_179_0, s_179_1, s_179_2, s_179_3, s_179_4, s_179_5, s_179_7, s_179_9, s_179_10, s_179_11, s_179_12, s_179_13, s_179_14, s_179_15, s_179_6 n20, s_179_8 n4, R1, h2, b2, a1, a2, a3, i0, i1, i2, ycl_0, hgf_s, hsel_0, hsel_1, hsel_2, hsel_3, hsel_4, hsel_5, hsel_6, hsel_7, hsel_8, hset_0, hset_1, hset_2, hset_3, hset_4, hset_5, hset_6, hset_7, hset_8, hpf_s, hcl_s, hai_s, hpi_0, hpi_1, hln_0, hln_1, List.length_cons, List.length_nil, xwr_1, xwr_2, xnew_1, xnew_n, xnew_s, xnew_z, Nat.reduceLT, ite_true, and_self, hp_8_0, hp_8_1, hn_8_1, hp_8_2, hn_8_2, hp_9_0, hp_9_1, hp_9_2, hp_9_3, hp_9_4, hp_9_5, hn_9_5, hp_9_6, hn_9_6, hp_9_7, hn_9_7, hp_10_0, hp_10_1, hp_10_2, hn_10_2, hp_10_3, hn_10_3, hp_11_0, hp_12_0, hn_12_0, hp_12_1, hp_12_2, hp_12_3, hp_12_4, hp_12_5, hn_12_5, hp_12_6, hn_12_6, hp_12_7, hp_12_8, hp_13_0, hn_13_0, hp_13_1, hp_13_2, hp_13_3, hp_14_0, hn_14_0, hp_14_1, hp_14_2, hp_14_3, xdef_8, xdef_9, xdef_10, xdef_11, xdef_12, xdef_13, xdef_14, Gk_v, Gk_n, xcat_nil, xcat_i, xcat_r, xcat_l, xcat_d, Nat.zero_le, Nat.reduceAdd, Nat.reduceLeDiff, true_and, and_true, ykl_i, ykl_r, ykl_n, ykl_l]
    simp only [s_179_16, s_179_17, s_179_18, s_179_20, s_179_21, s_179_22, s_179_23, s_179_24, s_179_25, s_179_26, s_179_27, s_179_28, s_179_29, s_179_30, s_179_31, s_179_19 n4, R1, h1, h2, b2, a4, a5 _ (Nat.mod_lt _ (by decide)), a6, i0, i1, i2, w0, u0, eg, ycl_0, pwr_at, pwr_wr, hgf_s, hsel_0, hsel_1, hsel_2, hsel_3, hsel_4, hsel_5, hsel_6, hsel_7, hsel_8, hset_0, hset_1, hset_2, hset_3, hset_4, hset_5, hset_6, hset_7, hset_8, hpf_s, hcl_s, hai_s, hpi_0, hpi_1, hln_0, hln_1, List.length_cons, List.length_nil, xwr_1, xwr_2, xnew_1, xnew_n, xnew_s, xnew_z, Nat.reduceLT, ite_true, and_self, hp_8_0, hp_8_1, hn_8_1, hp_8_2, hn_8_2, hp_9_0, hp_9_1, hp_9_2, hp_9_3, hp_9_4, hp_9_5, hn_9_5, hp_9_6, hn_9_6, hp_9_7, hn_9_7, hp_10_0, hp_10_1, hp_10_2, hn_10_2, hp_10_3, hn_10_3, hp_11_0, hp_12_0, hn_12_0, hp_12_1, hp_12_2, hp_12_3, hp_12_4, hp_12_5, hn_12_5, hp_12_6, hn_12_6, hp_12_7, hp_12_8, hp_13_0, hn_13_0, hp_13_1, hp_13_2, hp_13_3, hp_14_0, hn_14_0, hp_14_1, hp_14_2, hp_14_3, xdef_8, xdef_9, xdef_10, xdef_11, xdef_12, xdef_13, xdef_14, Gk_v, Gk_n, xcat_nil, xcat_i, xcat_r, xcat_l, xcat_d, Nat.zero_le, Nat.reduceAdd, Nat.reduceLeDiff, true_and, and_true, ykl_i, ykl_r, ykl_n, ykl_l]
  obtain ⟨τ1, e1⟩ : ∃ τ1, τ1 = xwr (yemb t) b (pints 8 g) := ⟨_, rfl⟩
  rw [← e1] at Zσ1 F1 E1 c1 ch1 C1 step T1
  have R2 : xRd τ1 b = some (.inl (0, (8, .inl g))) := by rw [yrd_lt b2, c1]
  have a7 : yI (l.length + 1) - yI (l.length + 1) / 20 * 20 = yI ((l.length + 1) % 20) := yI_mod (by omega) (by decide) (by decide)
  have hlen : (l ++ [y]).length = l.length + 1 := by simp
  by_cases hz : (l.length + 1) % 20 = 0
  · -- the words go to the class
    have hq19 : q = 19 := by omega
    rw [← E1] at c1
    obtain ⟨u, f', k1, ⟨C2, F2⟩, k2, k3⟩ := m_180 (d := d) C1 (by omega) ⟨b1, b2⟩ c1
    rw [E1] at k1 c1
    have z0 : yI ((l.length + 1) % 20) = 0 := by rw [hz]; rfl
    have kk : ∀ a, 160 ≤ a → (yemb u).1 a = τ1.1 a := fun a ha => by
      rw [yemb_hi ha, F2.K, ← yemb_hi ha (t := pM t τ1), E1]
    have zu : (yemb u).2 = τ1.2 := by
      rw [← E1]
      exact F2.z
    have cb : (yemb u).1 b = some (pints 8 g) := by rw [kk b b1, c1]
    have Zu : pZ (yemb u) := fun a ha => by
      rw [zu] at ha
      have h9 : 160 ≤ a := by
        have : 160 ≤ τ1.2.1.1 := by rw [e1]; exact hn0
        omega
      rw [kk a h9]
      exact Zσ1 a ha
    have lay : ∀ a, a < 160 → a ≠ 1 → a ≠ 2 → (yemb u).1 a = τ1.1 a := fun a h6 h7 h8 => by
      rw [← E1]
      show ycellT u a = ycellT (pM t τ1) a
      have hAa : u.A a = (pM t τ1).A a := F2.A (by omega)
      have hLa : u.L a = (pM t τ1).L a := F2.L (by omega)
      have hRa : u.R a = (pM t τ1).R a := F2.R (by omega)
      have hKa : u.K a = (pM t τ1).K a := by rw [F2.K]
      unfold ycellT
      cases hy9 : yla a with
      | none => exact hKa
      | some xx =>
        rcases xx with ⟨kk, nn⟩ | nn | ⟨kk, nn, ff⟩ | ⟨cc, ll⟩
        · simp only [hAa]
        · simp only [hLa]
        · rfl
        · have e9 : yfds u a 0 ll = yfds (pM t τ1) a 0 ll := yfds_ext ll (fun _ _ => by rw [hAa]) (fun _ _ => by rw [hLa]) (fun _ _ => hRa)
          simp only [e9]
    have F3 : pF (pXp b r) 0 0 τ1 (yemb u) := by
      refine ⟨fun a ha hp => ?_, fun a ha => ?_, ⟨by rw [zu]; exact Nat.le_refl _, by rw [zu]; exact Nat.le_refl _⟩, by rw [zu]; exact Nat.le_refl _, by rw [zu]⟩
      · by_cases h9 : a < 160
        · exact lay a h9 (fun e => hp (Or.inl e)) (fun e => hp (Or.inr (Or.inl e)))
        · exact kk a (by omega)
      · rw [zu] at ha
        refine kk a ?_
        have : 160 ≤ τ1.2.1.1 := by rw [e1]; exact hn0
        omega
    have Fb : pF (pXp b r) 0 0 (yemb u) (xwr (yemb u) b (pints 8 f')) := pF_wr (by rw [zu, e1]; exact hbn) (Or.inr (Or.inr (Or.inl rfl)))
    have F4 : pF (pXp b r) 0 0 (yemb t) (xwr (yemb u) b (pints 8 f')) := pF.trans (pF.trans F1 F3 (P' := pXp b r) (fun _ _ q => q.elim id id)) Fb (fun _ _ q => q.elim id id)
    have E2 : yemb (pM u (xwr (yemb u) b (pints 8 f'))) = xwr (yemb u) b (pints 8 f') := pM_emb (fun a ha => by rw [xwr_1, if_neg (by omega)])
    have nw : 20 * ((l ++ [y]).length / 20) = 20 * (l.length / 20) + 20 := by rw [hlen]; omega
    refine ⟨xwr (yemb u) b (pints 8 f'), fun Q => ?_, ⟨⟨pM u (xwr (yemb u) b (pints 8 f')), E2.symm, fun a h6 h7 => ?_, ?_⟩, ⟨f', pwr_at, ?_, fun j hj => ?_⟩, ?_, ?_, h128'⟩, F4⟩
    · refine (step Q).trans ?_
      simp only [s_179_32, s_179_33, s_179_34, s_179_35, s_179_37, s_179_38, s_179_39, s_179_40, s_179_41, s_179_36 n20, R2, g0, a7, z0, k1 _, i0, ycl_0, ne_eq, not_true_eq_false, if_false, hgf_s, hsel_0, hsel_1, hsel_2, hsel_3, hsel_4, hsel_5, hsel_6, hsel_7, hsel_8, hset_0, hset_1, hset_2, hset_3, hset_4, hset_5, hset_6, hset_7, hset_8, hpf_s, hcl_s, hai_s, hpi_0, hpi_1, hln_0, hln_1, List.length_cons, List.length_nil, xwr_1, xwr_2, xnew_1, xnew_n, xnew_s, xnew_z, Nat.reduceLT, ite_true, and_self, hp_8_0, hp_8_1, hn_8_1, hp_8_2, hn_8_2, hp_9_0, hp_9_1, hp_9_2, hp_9_3, hp_9_4, hp_9_5, hn_9_5, hp_9_6, hn_9_6, hp_9_7, hn_9_7, hp_10_0, hp_10_1, hp_10_2, hn_10_2, hp_10_3, hn_10_3, hp_11_0, hp_12_0, hn_12_0, hp_12_1, hp_12_2, hp_12_3, hp_12_4, hp_12_5, hn_12_5, hp_12_6, hn_12_6, hp_12_7, hp_12_8, hp_13_0, hn_13_0, hp_13_1, hp_13_2, hp_13_3, hp_14_0, hn_14_0, hp_14_1, hp_14_2, hp_14_3, xdef_8, xdef_9, xdef_10, xdef_11, xdef_12, xdef_13, xdef_14, Gk_v, Gk_n, xcat_nil, xcat_i, xcat_r, xcat_l, xcat_d, Nat.zero_le, Nat.reduceAdd, Nat.reduceLeDiff, true_and, and_true, ykl_i, ykl_r, ykl_n, ykl_l]
    · obtain ⟨m1, m2, m3⟩ := hh a h6 h7
      refine ⟨?_, ?_, ?_⟩
      · show u.A a = _
        rw [F2.A (by omega)]
        exact m1
      · show u.L a = _
        rw [F2.L (by omega)]
        exact m2
      · show u.R a = _
        rw [F2.R (by omega)]
        exact m3
    · rw [nw]
      obtain ⟨t1, t2, t3⟩ := C2.2.2.2.1
      refine ⟨t1, t2, fun i hi => ?_⟩
      have t4 := t3 i hi
      have e9 : yapp (g 1) (g 2) (g 3) (g 4) (g 5) (20 * (l.length / 20)) (pbt l) i = pbt (l ++ [y]) i := by
        unfold yapp
        rw [← hw] at hi ⊢
        by_cases g9 : i < w
        · rw [if_pos g9, pbt_app, if_neg (by omega)]
        · rw [if_neg g9]
          obtain ⟨v, hv⟩ : ∃ v, i = w + v := ⟨i - w, by omega⟩
          subst hv
          rw [Nat.add_sub_cancel_left]
          have hga : yarg (g 1) (g 2) (g 3) (g 4) (g 5) v = g (1 + v / 4) := by
            unfold yarg
            by_cases v1 : v < 4
            · rw [if_pos v1, show 1 + v / 4 = 1 by omega]
            · rw [if_neg v1]
              by_cases v2 : v < 8
              · rw [if_pos v2, show 1 + v / 4 = 2 by omega]
              · rw [if_neg v2]
                by_cases v3 : v < 12
                · rw [if_pos v3, show 1 + v / 4 = 3 by omega]
                · rw [if_neg v3]
                  by_cases v4 : v < 16
                  · rw [if_pos v4, show 1 + v / 4 = 4 by omega]
                  · rw [if_neg v4, show 1 + v / 4 = 5 by omega]
          rw [hga, gw (v / 4) (by omega)]
          have lt := fun i => Nat.lt_trans (h128' i) (show 128 < 256 by decide)
          rw [pw4_bk (h128' _) (lt _) (lt _) (lt _) (Nat.mod_lt _ (by decide))]
          rcases (by omega : v % 4 = 0 ∨ (v % 4 = 1 ∨ (v % 4 = 2 ∨ v % 4 = 3))) with m4 | m4 | m4 | m4
          · rw [m4, if_pos rfl, show w + 4 * (v / 4) = w + v by omega]
          · rw [m4, if_neg (by decide), if_pos rfl, show w + 4 * (v / 4) + 1 = w + v by omega]
          · rw [m4, if_neg (by decide), if_neg (by decide), if_pos rfl, show w + 4 * (v / 4) + 2 = w + v by omega]
          · rw [m4, if_neg (by decide), if_neg (by decide), if_neg (by decide), show w + 4 * (v / 4) + 3 = w + v by omega]
      rw [e9] at t4
      exact t4
    · rw [k2, g0, hlen]
    · rw [k3 j hj]
      unfold pwd
      rw [nw, pbt_hi (by rw [hlen]; omega), pbt_hi (by rw [hlen]; omega), pbt_hi (by rw [hlen]; omega), pbt_hi (by rw [hlen]; omega)]
      rfl
    · obtain ⟨p1, p2, p3⟩ := ch1
      exact ⟨p1, p2, by rw [xwr_1, if_neg (fun e => hbr e.symm), kk r r1, p3]⟩
    · exact pF.trans F0 F4 (fun _ _ q => q.elim id id)
  · have z0 : ¬ yI ((l.length + 1) % 20) = 0 := fun e => hz ((yI_inj (m := 0) (by omega) (by decide)).mp e)
    have nw : 20 * ((l ++ [y]).length / 20) = 20 * (l.length / 20) := by rw [hlen]; omega
    refine ⟨τ1, fun Q => ?_, ⟨⟨pM t τ1, E1.symm, hh, ?_⟩, ⟨g, c1, by rw [hlen]; exact g0, fun j hj => ?_⟩, ch1, pF.trans F0 F1 (fun _ _ q => q.elim id id), h128'⟩, F1⟩
    · refine (step Q).trans ?_
      simp only [s_179_32, s_179_33, s_179_34, s_179_35, s_179_37, s_179_38, s_179_39, s_179_40, s_179_41, s_179_36 n20, R2, g0, a7, z0, i0, ycl_0, ne_eq, not_false_eq_true, if_true, hgf_s, hsel_0, hsel_1, hsel_2, hsel_3, hsel_4, hsel_5, hsel_6, hsel_7, hsel_8, hset_0, hset_1, hset_2, hset_3, hset_4, hset_5, hset_6, hset_7, hset_8, hpf_s, hcl_s, hai_s, hpi_0, hpi_1, hln_0, hln_1, List.length_cons, List.length_nil, xwr_1, xwr_2, xnew_1, xnew_n, xnew_s, xnew_z, Nat.reduceLT, ite_true, and_self, hp_8_0, hp_8_1, hn_8_1, hp_8_2, hn_8_2, hp_9_0, hp_9_1, hp_9_2, hp_9_3, hp_9_4, hp_9_5, hn_9_5, hp_9_6, hn_9_6, hp_9_7, hn_9_7, hp_10_0, hp_10_1, hp_10_2, hn_10_2, hp_10_3, hn_10_3, hp_11_0, hp_12_0, hn_12_0, hp_12_1, hp_12_2, hp_12_3, hp_12_4, hp_12_5, hn_12_5, hp_12_6, hn_12_6, hp_12_7, hp_12_8, hp_13_0, hn_13_0, hp_13_1, hp_13_2, hp_13_3, hp_14_0, hn_14_0, hp_14_1, hp_14_2, hp_14_3, xdef_8, xdef_9, xdef_10, xdef_11, xdef_12, xdef_13, xdef_14, Gk_v, Gk_n, xcat_nil, xcat_i, xcat_r, xcat_l, xcat_d, Nat.zero_le, Nat.reduceAdd, Nat.reduceLeDiff, true_and, and_true, ykl_i, ykl_r, ykl_n, ykl_l]
    · rw [nw]
      refine ⟨T1.1, T1.2.1, fun i hi => ?_⟩
      rw [pbt_app, if_neg (by omega)]
      exact T1.2.2 i hi
    · rw [gw j hj]
      unfold pwd
      rw [nw, hw]
end

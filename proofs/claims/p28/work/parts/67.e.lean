/-! ===== the law's own strips: cells that come, what pixels show ===== -/
abbrev pZ (σ : xS) : Prop := ∀ b, σ.2.1.1 ≤ b → σ.1 b = none
abbrev pno (_ : Nat) : Prop := False
/-- cells that never change: colors, curves of the class, nodes -/
def pco (e : xE) : Prop := (∃ n y, (n = 0 ∨ n % 2 = 1) ∧ e = .inl (0, (n, y))) ∨ ∃ fs, e = .inr (10, fs)
abbrev pin (lo hi b : Nat) : Prop := lo ≤ b ∧ b < hi
/-- what changes of a strip that lies from lo to hi may touch -/
abbrev pP (lo hi : Nat) (σ : xS) (b : Nat) : Prop := pin lo hi b ∧ ∀ e, σ.1 b = some e → ¬ pco e
section
variable {d : Nat} {σ τ υ : xS} {s : Nat} {R : pR} {D : yD} {cv : Value} {dn en : Int32} {P : Nat → Prop} {c n lo hi : Nat} {e e' : xE} {a : Nat}
theorem pZ_F (Z : pZ σ) (F : pF P c n σ τ) : pZ τ := fun b hb => by
  rw [F.2.1 b hb]
  exact Z b (Nat.le_trans F.2.2.1.1 hb)
theorem pZ_lt (Z : pZ σ) (h : σ.1 a = some e) : a < σ.2.1.1 := by
  by_cases hh : a < σ.2.1.1
  · exact hh
  · rw [Z a (by omega)] at h
    cases h
theorem pF_keep (Z : pZ σ) (F : pF P c n σ τ) (h : σ.1 a = some e) (hp : ¬ P a) : τ.1 a = some e := by
  rw [F.1 a (pZ_lt Z h) hp, h]
theorem pnew_at {m : Nat} : (xnew σ e m).1 σ.2.1.1 = some e := by rw [xnew_1, if_pos rfl]
theorem pwr_nw {m : Nat} : xwr (xnew σ e m) σ.2.1.1 e' = xnew σ e' m := by
  refine Prod.ext (funext fun b => ?_) rfl
  show (if b = σ.2.1.1 then some e' else (if b = σ.2.1.1 then some e else σ.1 b)) = (if b = σ.2.1.1 then some e' else σ.1 b)
  split <;> rfl
theorem pwr_wr : xwr (xwr σ a e) a e' = xwr σ a e' := by
  refine Prod.ext (funext fun b => ?_) rfl
  show (if b = a then some e' else (if b = a then some e else σ.1 b)) = (if b = a then some e' else σ.1 b)
  split <;> rfl
theorem prd_new {m : Nat} (Z : pZ σ) (ha : a < 1000000) (h : xRd σ a = some e) : xRd (xnew σ e' m) a = some e := by
  rw [yrd_lt ha] at h
  have := pZ_lt Z h
  rw [yrd_lt ha, xnew_1, if_neg (by omega), h]
theorem pS.stay (S : pS σ s R D cv dn en) (h1 : ∀ b e, σ.1 b = some e → (b = s ∨ (b = R.lr ∨ (b = R.fr ∨ ((∃ p, p < D.n ∧ b = R.lm p) ∨ ∃ q, q < D.f ∧ b = R.fg q)))) → τ.1 b = some e) (h2 : ∀ b y, σ.1 b = some (.inl (0, (3, y))) → τ.1 b = some (.inl (0, (3, y)))) : pS τ s R D cv dn en := by
  obtain ⟨⟨a1, a2⟩, ⟨b1, g, b2, b3⟩, c1, d1, ⟨e1, g', e2, e3⟩, f1⟩ := S
  have hc : ∀ a x, pC σ a x → pC τ a x := fun a x ⟨h0, c, h3, h4⟩ => ⟨h0, c, h2 a _ h3, h4⟩
  refine ⟨⟨a1, h1 s _ a2 (Or.inl rfl)⟩, ⟨b1, g, h1 _ _ b2 (Or.inr (Or.inl rfl)), b3⟩, fun p hp => ⟨(c1 p hp).1, h1 _ _ (c1 p hp).2 (Or.inr (Or.inr (Or.inr (Or.inl ⟨p, hp, rfl⟩))))⟩, fun p hp => ?_, ⟨e1, g', h1 _ _ e2 (Or.inr (Or.inr (Or.inl rfl))), e3⟩, fun q hq => ?_⟩
  · obtain ⟨⟨i1, i2⟩, ⟨i3, i4⟩, i5, i6⟩ := d1 p hp
    exact ⟨⟨hc _ _ i1, i2⟩, ⟨hc _ _ i3, i4⟩, hc _ _ i5, i6⟩
  · obtain ⟨i1, c, i2, i3⟩ := f1 q hq
    exact ⟨i1, c, h1 _ _ i2 (Or.inr (Or.inr (Or.inr (Or.inr ⟨q, hq, rfl⟩)))), i3⟩
theorem pS.no (S : pS σ s R D cv dn en) (Z : pZ σ) (F : pF pno c n σ τ) : pS τ s R D cv dn en :=
  S.stay (fun b e h _ => pF_keep Z F h id) (fun b y h => pF_keep Z F h id)
/-- where a strip lies -/
def pJ (lo hi s : Nat) (R : pR) (D : yD) : Prop := pin lo hi s ∧ (pin lo hi R.lr ∧ (pin lo hi R.fr ∧ (((∀ p, p < D.n → pin lo hi (R.lm p)) ∧ ∀ q, q < D.f → pin lo hi (R.fg q)) ∧ ((∀ p q, p < D.n → q < D.n → R.lm p = R.lm q → p = q) ∧ ∀ p q, p < D.f → q < D.f → R.fg p = R.fg q → p = q))))
theorem pS.fr (S : pS σ s R D cv dn en) (Z : pZ σ) (J : pJ lo hi s R D) (F : pF P c n σ τ) (h1 : ∀ b, b < σ.2.1.1 → pin lo hi b → ¬ P b) (h2 : ∀ b e, σ.1 b = some e → pco e → ¬ P b) : pS τ s R D cv dn en := by
  refine S.stay (fun b e h hb => pF_keep Z F h (h1 b (pZ_lt Z h) ?_)) (fun b y h => pF_keep Z F h (h2 b _ h (Or.inl ⟨3, y, Or.inr rfl, rfl⟩)))
  rcases hb with rfl | rfl | rfl | ⟨p, hp, rfl⟩ | ⟨q, hq, rfl⟩
  · exact J.1
  · exact J.2.1
  · exact J.2.2.1
  · exact J.2.2.2.1.1 p hp
  · exact J.2.2.2.1.2 q hq
theorem pC_no {x : Int32} (h : pC σ a x) (Z : pZ σ) (F : pF P c n σ τ) (h2 : ∀ b e, σ.1 b = some e → pco e → ¬ P b) : pC τ a x := by
  obtain ⟨h0, c, h3, h4⟩ := h
  exact ⟨h0, c, pF_keep Z F h3 (h2 a _ h3 (Or.inl ⟨3, _, Or.inr rfl, rfl⟩)), h4⟩
theorem pF.no_trans {c s c' s' : Nat} (h : pF pno c s σ τ) (g : pF pno c' s' τ υ) : pF pno (c + c') (s + s') σ υ := pF.trans h g (fun _ _ q => q.elim id id)
theorem pin_no (b : Nat) (e : xE) (_ : σ.1 b = some e) (_ : pco e) : ¬ pno b := id
theorem yb8_z (k : Nat) (hk : k < 31) : yb8 0 (yI k) = 0 := by
  rw [show (0 : Int32) = yI 0 from rfl, yb8_I (by decide) hk, Nat.zero_div, Nat.zero_mod]
theorem pC_new {m : Nat} {c : Nat → Int32} {x : Int32} (hn : σ.2.1.1 < 1000000) (h0 : c 0 = yI (yb8 x 16)) (h1 : c 1 = yI (yb8 x 8)) (h2 : c 2 = yI (yb8 x 0)) : pC (xnew σ (.inl (0, (3, .inl c))) m) σ.2.1.1 x := ⟨hn, c, pnew_at, h0, h1, h2⟩
theorem pcol_0 : pcol 0 := ⟨0, by decide, rfl⟩
theorem ycl_3 : (3 : Int32).toNatClampNeg = 3 := rfl
theorem pshare {c ld : Int32} {l : Nat} (hl : l < 10000) (h : yI l < ld) : (¬ ld = 0) ∧ ∃ r g b, (r < 256 ∧ (g < 256 ∧ b < 256)) ∧ ((yI (yb8 c 16) * yI l / ld = yI r ∧ (yI (yb8 c 8) * yI l / ld = yI g ∧ yI (yb8 c 0) * yI l / ld = yI b)) ∧ yshare c (yI l) ld = yI (65536 * r + 256 * g + b)) := by
  have e := yshare_color (c := c) hl h
  have h0 : ¬ ld < 0 := by
    intro h1
    have h2 := Int32.lt_iff_toInt_lt.mp h
    have h3 := Int32.lt_iff_toInt_lt.mp h1
    rw [yI_toInt (by omega)] at h2
    have h4 : (0 : Int32).toInt = 0 := rfl
    omega
  obtain ⟨n, hn, rfl⟩ := yI_of h0
  have hln := (yI_lt (by omega) hn).mp h
  rw [(yb8_eq c 16).1, (yb8_eq c 8).1, yb8_0] at e
  obtain ⟨a', ha', ea'⟩ := yshare_ch (yb8_eq c 16).2 hl hln hn
  obtain ⟨b', hb', eb'⟩ := yshare_ch (yb8_eq c 8).2 hl hln hn
  obtain ⟨e', he', ee'⟩ := yshare_ch (yb8_eq c 0).2 hl hln hn
  refine ⟨fun q => ?_, a', b', e', ⟨ha', hb', he'⟩, ⟨ea', eb', ee'⟩, ?_⟩
  · have := (yI_inj (n := n) (m := 0) hn (by decide)).mp q
    omega
  · rw [e, ea', eb', ee', ycolor_nat]
theorem m_139 (S : pS σ s R D cv dn en) (hD : yDok D) (Z : pZ σ) {p : Nat} (hp : p < D.n) (hr : σ.2.1.1 < 900000) : ∃ a τ, Ra (d + 2) 139 [.ref s, .int (yI p)] σ (.inl (some (.ref a))) τ ∧ (pF pno 1 3 σ τ ∧ (pC τ a (yshown D p) ∧ pcol (yshown D p))) := by
  obtain ⟨gg, e1, e2⟩ := S.lrow
  obtain ⟨gf, i1, i2⟩ := S.frow
  have hn40 := hD.n40
  have hf6 := hD.f6
  have hfe := yfeed_lt hD p
  have c2 : yix (yI p) D.n := yix_I (by omega) (by omega)
  have c3 : (yI p).toNatClampNeg = p := yI_clamp (by omega)
  have c4 : yix (yI (yfeed D p)) D.f := yix_I (by omega) (by omega)
  have c5 : (yI (yfeed D p)).toNatClampNeg = yfeed D p := yI_clamp (by omega)
  have g1 := m_136 (d := d + 1) S hD (p := p) (by omega)
  have g2 := m_125S (d := d + 1) S hp
  have g3 := m_138 (d := d) S hD hfe
  have l0 := S.lm0 hp
  have l1 := S.lm1 hp
  have n1 : ¬ (3 : Int32) < 0 := by decide
  have n2 : (3 : Nat) ≤ 100000 := by decide
  obtain ⟨⟨t0, ct, t1, t2, t3, t4⟩, t5⟩ := S.tk hp
  have t1' : xRd σ (R.tk p) = some (.inl (0, (3, .inl ct))) := by rw [yrd_lt t0, t1]
  obtain ⟨f0, cf, f1, -, f2⟩ := S.fg hfe
  obtain ⟨l, hl, e3⟩ := hD.fll _ hfe
  cases hb : ylit D p
  · have es : yshown D p = 0 := by unfold yshown; rw [hb]; rfl
    rw [es]
    refine ⟨σ.2.1.1, xnew σ pz3 3, fun Q => ?_, pF_new, pC_new (by omega) (by rw [show (16 : Int32) = yI 16 from rfl, yb8_z 16 (by decide)]; rfl) (by rw [show (8 : Int32) = yI 8 from rfl, yb8_z 8 (by decide)]; rfl) (by have := yb8_z 0 (by decide); rw [show (yI 0) = 0 from rfl] at this; rw [this]; rfl), pcol_0⟩
    show G (d + 2) 139 0 [some (.ref s), some (.int (yI p)), none, none, none, none] [] σ Q ↔ _
    simp only [s_139_0, s_139_1, s_139_2, s_139_3, s_139_4, s_139_5, s_139_6, s_139_7, s_139_8, s_139_9, s_139_10, s_139_11, s_139_12, s_139_13, s_139_14, s_139_15, s_139_16, s_139_17, s_139_18, s_139_19, s_139_20, s_139_21, s_139_22, s_139_23, s_139_24, s_139_25, s_139_26, s_139_27, s_139_28, s_139_29, s_139_30, s_139_31, s_139_32, s_139_33, s_139_34, s_139_34i, s_139_35, s_139_36, s_139_37, s_139_38, s_139_39, s_139_40, s_139_41, s_139_42, s_139_43, s_139_44, s_139_45, s_139_45i, s_139_46, s_139_47, s_139_48, s_139_49, s_139_50, s_139_51, s_139_52, s_139_53, s_139_54, s_139_55, s_139_56, s_139_56i, s_139_57, s_139_58, s_139_59, s_139_60, s_139_61, s_139_62, s_139_63, s_139_64, s_139_65, s_139_66, s_139_67, S.ob, e1, e2 p hp, l0, l1, haa_t S.lr0 (show 4 ≤ 6 ∧ 6 ≤ 8 by decide), c2, c3, hop_s, g2 _, hb, plamp, ne_eq, yb, Bool.false_eq_true, not_true_eq_false, if_false, n1, n2, ycl_3, hr, not_false_eq_true, hgf_s, hsel_0, hsel_1, hsel_2, hsel_3, hsel_4, hsel_5, hsel_6, hsel_7, hsel_8, hset_0, hset_1, hset_2, hset_3, hset_4, hset_5, hset_6, hset_7, hset_8, hpf_s, hcl_s, hai_s, hpi_0, hpi_1, hln_0, hln_1, List.length_cons, List.length_nil, xwr_1, xwr_2, xnew_1, xnew_n, xnew_s, xnew_z, Nat.reduceLT, ite_true, and_self, hp_8_0, hp_8_1, hn_8_1, hp_8_2, hn_8_2, hp_9_0, hp_9_1, hp_9_2, hp_9_3, hp_9_4, hp_9_5, hn_9_5, hp_9_6, hn_9_6, hp_9_7, hn_9_7, hp_10_0, hp_10_1, hp_10_2, hn_10_2, hp_10_3, hn_10_3, hp_11_0, hp_12_0, hn_12_0, hp_12_1, hp_12_2, hp_12_3, hp_12_4, hp_12_5, hn_12_5, hp_12_6, hn_12_6, hp_12_7, hp_12_8, hp_13_0, hn_13_0, hp_13_1, hp_13_2, hp_13_3, hp_14_0, hn_14_0, hp_14_1, hp_14_2, hp_14_3, xdef_8, xdef_9, xdef_10, xdef_11, xdef_12, xdef_13, xdef_14, Gk_v, Gk_n, xcat_nil, xcat_i, xcat_r, xcat_l, xcat_d, Nat.zero_le, Nat.reduceAdd, Nat.reduceLeDiff, true_and, and_true, ykl_i, ykl_r, ykl_n, ykl_l]
  · have hz : ¬ (1 : Int32) = 0 := by decide
    by_cases hc : D.fl (yfeed D p) < yload D (yfeed D p)
    · have hc' : yload D (yfeed D p) > cf 1 := by rw [f2]; exact hc
      rw [e3] at hc f2
      obtain ⟨z0, r, g, b, ⟨hr', hg', hb'⟩, ⟨u1, u2, u3⟩, u4⟩ := pshare (c := D.tk p) hl hc
      have es : yshown D p = yI (65536 * r + 256 * g + b) := by unfold yshown; rw [hb, e3, u4]; rfl
      obtain ⟨v1, v2, v3, v4⟩ := pcol_of hr' hg' hb'
      rw [es]
      refine ⟨σ.2.1.1, xnew σ (.inl (0, (3, .inl (upd (upd (upd (fun _ => 0) 0 (yI r)) 1 (yI g)) 2 (yI b))))) 3, fun Q => ?_, pF_new, pC_new (by omega) (by rw [v2]; rfl) (by rw [v3]; rfl) (by rw [v4]; rfl), v1⟩
      have w1 : ∀ e m, xRd (xnew σ e m) (R.lm p) = _ := fun e m => prd_new Z l0 l1
      have w2 : ∀ e m, xRd (xnew σ e m) (R.tk p) = _ := fun e m => prd_new Z t0 t1'
      have hr9 : σ.2.1.1 < 1000000 := by omega
      show G (d + 2) 139 0 [some (.ref s), some (.int (yI p)), none, none, none, none] [] σ Q ↔ _
      rw [f2] at hc'
      simp only [s_139_0, s_139_1, s_139_2, s_139_3, s_139_4, s_139_5, s_139_6, s_139_7, s_139_8, s_139_9, s_139_10, s_139_11, s_139_12, s_139_13, s_139_14, s_139_15, s_139_16, s_139_17, s_139_18, s_139_19, s_139_20, s_139_21, s_139_22, s_139_23, s_139_24, s_139_25, s_139_26, s_139_27, s_139_28, s_139_29, s_139_30, s_139_31, s_139_32, s_139_33, s_139_34, s_139_34i, s_139_35, s_139_36, s_139_37, s_139_38, s_139_39, s_139_40, s_139_41, s_139_42, s_139_44, s_139_45, s_139_45i, s_139_46, s_139_47, s_139_48, s_139_49, s_139_50, s_139_51, s_139_52, s_139_53, s_139_55, s_139_56, s_139_56i, s_139_57, s_139_58, s_139_59, s_139_60, s_139_61, s_139_62, s_139_63, s_139_64, s_139_66, s_139_67, s_139_43 z0, s_139_54 z0, s_139_65 z0, S.ob, e1, e2 p hp, i1, i2 _ hfe, f0, f1, f2, l0, l1, w1, w2, t2, t3, t4, u1, u2, u3, haa_t S.lr0 (show 4 ≤ 6 ∧ 6 ≤ 8 by decide), haa_t S.fr0 (show 4 ≤ 5 ∧ 5 ≤ 8 by decide), c2, c3, c4, c5, hop_s, g1 _, g2 _, g3 _, hb, plamp, ne_eq, yb, hz, if_true, if_false, n1, n2, ycl_3, hr, hr9, hc', yix2_1, yix3_0, yix3_1, yix3_2, ycl_0, ycl_1, ycl_2, pnew_at, pwr_nw, not_false_eq_true, hgf_s, hsel_0, hsel_1, hsel_2, hsel_3, hsel_4, hsel_5, hsel_6, hsel_7, hsel_8, hset_0, hset_1, hset_2, hset_3, hset_4, hset_5, hset_6, hset_7, hset_8, hpf_s, hcl_s, hai_s, hpi_0, hpi_1, hln_0, hln_1, List.length_cons, List.length_nil, xwr_1, xwr_2, xnew_1, xnew_n, xnew_s, xnew_z, Nat.reduceLT, ite_true, and_self, hp_8_0, hp_8_1, hn_8_1, hp_8_2, hn_8_2, hp_9_0, hp_9_1, hp_9_2, hp_9_3, hp_9_4, hp_9_5, hn_9_5, hp_9_6, hn_9_6, hp_9_7, hn_9_7, hp_10_0, hp_10_1, hp_10_2, hn_10_2, hp_10_3, hn_10_3, hp_11_0, hp_12_0, hn_12_0, hp_12_1, hp_12_2, hp_12_3, hp_12_4, hp_12_5, hn_12_5, hp_12_6, hn_12_6, hp_12_7, hp_12_8, hp_13_0, hn_13_0, hp_13_1, hp_13_2, hp_13_3, hp_14_0, hn_14_0, hp_14_1, hp_14_2, hp_14_3, xdef_8, xdef_9, xdef_10, xdef_11, xdef_12, xdef_13, xdef_14, Gk_v, Gk_n, xcat_nil, xcat_i, xcat_r, xcat_l, xcat_d, Nat.zero_le, Nat.reduceAdd, Nat.reduceLeDiff, true_and, and_true, ykl_i, ykl_r, ykl_n, ykl_l]
    · have hc' : ¬ yload D (yfeed D p) > cf 1 := by rw [f2]; exact hc
      have es : yshown D p = D.tk p := by
        unfold yshown yshare
        rw [hb, if_pos rfl, if_pos (Or.inl (Int32.not_lt.mp hc))]
      rw [es]
      refine ⟨R.tk p, σ, fun Q => ?_, pF.rfl', ⟨t0, ct, t1, t2, t3, t4⟩, t5⟩
      show G (d + 2) 139 0 [some (.ref s), some (.int (yI p)), none, none, none, none] [] σ Q ↔ _
      simp only [s_139_0, s_139_1, s_139_2, s_139_3, s_139_4, s_139_5, s_139_6, s_139_7, s_139_8, s_139_9, s_139_10, s_139_11, s_139_12, s_139_13, s_139_14, s_139_15, s_139_16, s_139_17, s_139_18, s_139_19, s_139_20, s_139_21, s_139_22, s_139_23, s_139_24, s_139_25, s_139_26, s_139_27, s_139_28, s_139_29, s_139_30, s_139_31, s_139_32, s_139_33, s_139_34, s_139_34i, s_139_35, s_139_36, s_139_37, s_139_38, s_139_39, s_139_40, s_139_41, s_139_42, s_139_43, s_139_44, s_139_45, s_139_45i, s_139_46, s_139_47, s_139_48, s_139_49, s_139_50, s_139_51, s_139_52, s_139_53, s_139_54, s_139_55, s_139_56, s_139_56i, s_139_57, s_139_58, s_139_59, s_139_60, s_139_61, s_139_62, s_139_63, s_139_64, s_139_65, s_139_66, s_139_67, S.ob, e1, e2 p hp, i1, i2 _ hfe, f0, f1, l0, l1, haa_t S.lr0 (show 4 ≤ 6 ∧ 6 ≤ 8 by decide), haa_t S.fr0 (show 4 ≤ 5 ∧ 5 ≤ 8 by decide), c2, c3, c4, c5, hop_s, g1 _, g2 _, g3 _, hb, plamp, ne_eq, yb, hz, if_true, if_false, hc', yix2_1, ycl_1, not_false_eq_true, hgf_s, hsel_0, hsel_1, hsel_2, hsel_3, hsel_4, hsel_5, hsel_6, hsel_7, hsel_8, hset_0, hset_1, hset_2, hset_3, hset_4, hset_5, hset_6, hset_7, hset_8, hpf_s, hcl_s, hai_s, hpi_0, hpi_1, hln_0, hln_1, List.length_cons, List.length_nil, xwr_1, xwr_2, xnew_1, xnew_n, xnew_s, xnew_z, Nat.reduceLT, ite_true, and_self, hp_8_0, hp_8_1, hn_8_1, hp_8_2, hn_8_2, hp_9_0, hp_9_1, hp_9_2, hp_9_3, hp_9_4, hp_9_5, hn_9_5, hp_9_6, hn_9_6, hp_9_7, hn_9_7, hp_10_0, hp_10_1, hp_10_2, hn_10_2, hp_10_3, hn_10_3, hp_11_0, hp_12_0, hn_12_0, hp_12_1, hp_12_2, hp_12_3, hp_12_4, hp_12_5, hn_12_5, hp_12_6, hn_12_6, hp_12_7, hp_12_8, hp_13_0, hn_13_0, hp_13_1, hp_13_2, hp_13_3, hp_14_0, hn_14_0, hp_14_1, hp_14_2, hp_14_3, xdef_8, xdef_9, xdef_10, xdef_11, xdef_12, xdef_13, xdef_14, Gk_v, Gk_n, xcat_nil, xcat_i, xcat_r, xcat_l, xcat_d, Nat.zero_le, Nat.reduceAdd, Nat.reduceLeDiff, true_and, and_true, ykl_i, ykl_r, ykl_n, ykl_l]
end

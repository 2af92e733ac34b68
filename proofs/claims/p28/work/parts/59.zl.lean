/-! ===== a feed is added ===== -/
def yD.sfe (D : yD) (f : Nat) (fp : Nat → Nat) (fl : Nat → Int32) : yD := (D.n, (f, (D.un, (D.lv, (D.sh, (D.ac, (D.bw, (D.kd, (D.pd, (D.fr, (D.tk, (D.du, (D.og, (D.fm, (fp, (fl, (D.cn, D.cg)))))))))))))))))
section
variable {D : yD} {f : Nat} {fp : Nat → Nat} {fl : Nat → Int32}
theorem ysfe_n : (D.sfe f fp fl).n = D.n := rfl
theorem ysfe_f : (D.sfe f fp fl).f = f := rfl
theorem ysfe_un : (D.sfe f fp fl).un = D.un := rfl
theorem ysfe_lv : (D.sfe f fp fl).lv = D.lv := rfl
theorem ysfe_sh : (D.sfe f fp fl).sh = D.sh := rfl
theorem ysfe_ac : (D.sfe f fp fl).ac = D.ac := rfl
theorem ysfe_bw : (D.sfe f fp fl).bw = D.bw := rfl
theorem ysfe_kd : (D.sfe f fp fl).kd = D.kd := rfl
theorem ysfe_pd : (D.sfe f fp fl).pd = D.pd := rfl
theorem ysfe_fr : (D.sfe f fp fl).fr = D.fr := rfl
theorem ysfe_tk : (D.sfe f fp fl).tk = D.tk := rfl
theorem ysfe_du : (D.sfe f fp fl).du = D.du := rfl
theorem ysfe_og : (D.sfe f fp fl).og = D.og := rfl
theorem ysfe_fm : (D.sfe f fp fl).fm = D.fm := rfl
theorem ysfe_fp : (D.sfe f fp fl).fp = fp := rfl
theorem ysfe_fl : (D.sfe f fp fl).fl = fl := rfl
theorem ysfe_cn : (D.sfe f fp fl).cn = D.cn := rfl
theorem ysfe_cg : (D.sfe f fp fl).cg = D.cg := rfl
theorem ysfe_bp : (D.sfe f fp fl).bp = D.bp := rfl
theorem yV_sfe {t u : yT} {o : Nat} (W : yV t o D) (F : yFr (fun a => a = o ∨ a = o + 8 ∨ a = o + 9) t u) (h0 : u.A o = upd (t.A o) 12 (yI f)) (hL : u.L o = t.L o) (hR : u.R o = t.R o) (h8 : ∀ g, g < f → u.A (o + 8) g = yI (fp g)) (h9 : ∀ g, g < f → u.A (o + 9) g = fl g) : yV u o (D.sfe f fp fl) := by
  have hA : ∀ j, 1 ≤ j → j ≤ 7 → u.A (o + j) = t.A (o + j) := fun j h1 h2 => F.A (by omega)
  refine ⟨W.oo, ?_, ?_, ?_, ?_, ?_, ?_, ?_, ?_, ?_, ?_, ?_, ?_, ?_, ?_, ?_, ?_, ?_, ?_⟩
  · rw [h0, yupd_ne (by decide)]; exact W.n
  · rw [h0, yupd_ne (by decide)]; exact W.un
  · rw [h0, yupd_ne (by decide)]; exact W.lv
  · rw [h0, yupd_same]; rfl
  · rw [h0, yupd_ne (by decide)]; exact W.sh
  · rw [h0, yupd_ne (by decide)]; exact W.ac
  · rw [hL]; exact W.bw
  · rw [hR]; exact W.c1
  · rw [hR, F.K]; exact W.cv
  · rw [hA 1 (by decide) (by decide)]; exact W.fm
  · rw [hA 2 (by decide) (by decide)]; exact W.du
  · rw [hA 3 (by decide) (by decide)]; exact W.kd
  · rw [hA 4 (by decide) (by decide)]; exact W.pd
  · rw [hA 5 (by decide) (by decide)]; exact W.fr
  · rw [hA 6 (by decide) (by decide)]; exact W.tk
  · rw [hA 7 (by decide) (by decide)]; exact W.og
  · exact h8
  · exact h9
theorem yN_sfe {S T : Nat → Int32} (W : yN S D) (h3 : T 3 = yI f) (hS : ∀ i, i ≠ 3 → (i < 328 ∨ 340 ≤ i) → T i = S i) (hp : ∀ g, g < f → T (328 + 2 * g) = yI (fp g)) (hl : ∀ g, g < f → T (328 + 2 * g + 1) = fl g) : yN T (D.sfe f fp fl) := by
  refine ⟨?_, ?_, ?_, ?_, ?_, ?_, ?_, ?_, ?_, ?_, ?_, ?_, ?_, ?_, ?_, ?_, ?_, ?_, ?_⟩
  · rw [hS _ (by decide) (by omega)]; exact W.n
  · rw [hS _ (by decide) (by omega)]; exact W.un
  · rw [hS _ (by decide) (by omega)]; exact W.lv
  · exact h3
  · rw [hS _ (by decide) (by omega)]; exact W.sh
  · rw [hS _ (by decide) (by omega)]; exact W.ac
  · rw [hS _ (by decide) (by omega)]; exact W.hc
  · rw [hS _ (by decide) (by omega)]; exact W.nc
  · intro p hp; rw [hS _ (by omega) (by omega)]; exact W.kd p hp
  · intro p hp; rw [hS _ (by omega) (by omega)]; exact W.pd p hp
  · intro p hp; rw [hS _ (by omega) (by omega)]; exact W.fr p hp
  · intro p hp; rw [hS _ (by omega) (by omega)]; exact W.tk p hp
  · intro p hp; rw [hS _ (by omega) (by omega)]; exact W.du p hp
  · intro p hp; rw [hS _ (by omega) (by omega)]; exact W.og p hp
  · intro p hp; rw [hS _ (by omega) (by omega)]; exact W.fm p hp
  · intro p hp; rw [hS _ (by omega) (by omega)]; exact W.bp p hp
  · exact hp
  · exact hl
  · intro i hi; rw [hS _ (by omega) (by omega), hS _ (by omega) (by omega)]; exact W.cc i hi
end
/-- the place of a feed: the first that doesn't lie ahead of p -/
def yfj (fp : Nat → Nat) (p : Nat) : Nat → Nat → Nat
  | 0, g => g
  | m + 1, g => if fp g < p then yfj fp p m (g + 1) else g
theorem yfj_spec {fp : Nat → Nat} {p : Nat} : ∀ m g, (g ≤ yfj fp p m g ∧ yfj fp p m g ≤ g + m) ∧ ((∀ i, g ≤ i → i < yfj fp p m g → fp i < p) ∧ (yfj fp p m g < g + m → p ≤ fp (yfj fp p m g))) := by
  intro m
  induction m with
  | zero => intro g; exact ⟨⟨Nat.le_refl _, Nat.le_refl _⟩, fun i h1 h2 => by simp only [yfj] at h2; omega, fun h => by simp only [yfj] at h; omega⟩
  | succ m ih =>
    intro g
    rw [yfj]
    by_cases h : fp g < p
    · rw [if_pos h]
      obtain ⟨h1, h2, h3⟩ := ih (g + 1)
      refine ⟨by omega, fun i g1 g2 => ?_, fun h4 => h3 (by omega)⟩
      by_cases e : i = g
      · rw [e]; exact h
      · exact h2 i (by omega) g2
    · rw [if_neg h]
      exact ⟨by omega, fun i g1 g2 => by omega, fun _ => by omega⟩
abbrev yfJ (D : yD) (p : Nat) : Nat := yfj D.fp p D.f 0
def yinsN (f : Nat → Nat) (j p g : Nat) : Nat := if g < j then f g else if g = j then p else f (g - 1)
def yinsI (f : Nat → Int32) (j : Nat) (v : Int32) (g : Nat) : Int32 := if g < j then f g else if g = j then v else f (g - 1)
def yaddf (D : yD) (p l : Nat) : yD := if p = 0 then D.sfl (upd D.fl 0 (yI l)) else D.sfe (D.f + 1) (yinsN D.fp (yfJ D p) p) (yinsI D.fl (yfJ D p) (yI l))
/-- p is no feed's yet -/
abbrev ynof (D : yD) (p : Nat) : Prop := ∀ g, g < D.f → D.fp g ≠ p
theorem yfJ_ok {D : yD} (h : yDok D) {p : Nat} (hp : ¬ p = 0) (hn : ynof D p) : (1 ≤ yfJ D p ∧ yfJ D p ≤ D.f) ∧ ((∀ i, i < yfJ D p → D.fp i < p) ∧ ∀ i, yfJ D p ≤ i → i < D.f → p < D.fp i) := by
  unfold yfJ
  obtain ⟨h1, h2, h3⟩ := yfj_spec (fp := D.fp) (p := p) D.f 0
  have hf1 := h.f1
  have h0 := h.fp0
  generalize yfj D.fp p D.f 0 = j at *
  have hj : 1 ≤ j := by
    by_cases e : j = 0
    · subst e
      have := h3 (by omega)
      omega
    · omega
  refine ⟨⟨hj, by omega⟩, fun i hi => h2 i (Nat.zero_le _) hi, fun i hi hf => ?_⟩
  have h4 := h3 (by omega)
  have h5 := hn j (by omega)
  by_cases e : i = j
  · rw [e]; omega
  · have := yfp_mono h i j (by omega) hf
    omega
theorem yaddf_ok {D : yD} (h : yDok D) {p l : Nat} (hpn : p < D.n) (hl : l < 10000) (hp : ¬ p = 0 → ynof D p ∧ D.f < 6) : yDok (yaddf D p l) := by
  unfold yaddf
  by_cases e : p = 0
  · rw [if_pos e]
    exact yDok_fl h hl
  · rw [if_neg e]
    obtain ⟨hn, h6⟩ := hp e
    obtain ⟨⟨j1, j2⟩, j3, j4⟩ := yfJ_ok h e hn
    generalize yfJ D p = j at *
    refine ⟨h.n1, h.n40, ?_, ?_, ?_, ?_, ?_, h.ogm, ?_, h.unu, h.lvv, h.bwn, h.kdk, h.pdp, h.bad, h.cok⟩
    · rw [ysfe_f]; omega
    · rw [ysfe_f]; omega
    · rw [ysfe_fp]
      unfold yinsN
      rw [if_pos (by omega)]
      exact h.fp0
    · intro g hg
      rw [ysfe_f] at hg
      rw [ysfe_fp]
      unfold yinsN
      by_cases c1 : g + 1 < j
      · rw [if_pos (by omega), if_pos c1]
        exact h.fpm g (by omega)
      · rw [if_neg c1]
        by_cases c2 : g + 1 = j
        · rw [if_pos (by omega), if_pos c2]
          exact j3 g (by omega)
        · rw [if_neg c2, if_neg (by omega)]
          by_cases c3 : g = j
          · rw [if_pos c3, c3]
            exact j4 j (Nat.le_refl _) (by omega)
          · rw [if_neg c3]
            have := h.fpm (g - 1) (by omega)
            rw [show g - 1 + 1 = g by omega] at this
            exact this
    · intro g hg
      rw [ysfe_f] at hg
      rw [ysfe_fp, ysfe_n]
      unfold yinsN
      split
      · exact h.fpn g (by omega)
      · split
        · exact hpn
        · exact h.fpn (g - 1) (by omega)
    · intro g hg
      rw [ysfe_f] at hg
      rw [ysfe_fl]
      unfold yinsI
      split
      · exact h.fll g (by omega)
      · split
        · exact ⟨l, hl, rfl⟩
        · exact h.fll (g - 1) (by omega)
section
variable {d o : Nat} {D : yD}
/-- the class makes room -/
theorem l_41 (ho : yisO 4 o) {p j : Nat} {x2 : Int32} (hp : p < 40) (hj : 1 ≤ j) (hj6 : j < 6) (h3 : ∀ i, i < j → D.fp i < p) (h4 : ∀ i, j ≤ i → i < D.f → p < D.fp i) (hf : D.f < 6) (hfp : ∀ g, g < D.f → D.fp g < 40) : ∀ m q (t : yT), j + m = q → q ≤ D.f → (∀ g, g < q → t.A (o + 8) g = yI (D.fp g) ∧ t.A (o + 9) g = D.fl g) → (∀ g, q < g → g ≤ D.f → t.A (o + 8) g = yI (D.fp (g - 1)) ∧ t.A (o + 9) g = D.fl (g - 1)) → ∃ u, Gg d 41 15 [some (.ref o), some (.int (yI p)), some (.int x2), some (.int (yI q))] [] (yemb t) 48 [some (.ref o), some (.int (yI p)), some (.int x2), some (.int (yI j))] [] (yemb u) ∧ ((∀ g, g < j → u.A (o + 8) g = yI (D.fp g) ∧ u.A (o + 9) g = D.fl g) ∧ ((∀ g, j < g → g ≤ D.f → u.A (o + 8) g = yI (D.fp (g - 1)) ∧ u.A (o + 9) g = D.fl (g - 1)) ∧ yFr (fun a => a = o + 8 ∨ a = o + 9) t u)) := by
  intro m
  induction m with
  | zero =>
    intro q t hq hqf k1 k2
    obtain rfl : j = q := by omega
    refine ⟨t, fun Q => ?_, k1, k2, yFr.rfl'⟩
    rw [s_41_15]
    by_cases e : j = 1
    · have c1 : yI j ≤ 1 := (yI_le (m := 1) (by omega) (by decide)).mpr (by omega)
      simp only [s_41_0, s_41_1, s_41_2, s_41_3, s_41_4, s_41_5, s_41_6, s_41_7, s_41_8, s_41_9, s_41_10, s_41_11, s_41_12, s_41_13, s_41_14, s_41_16, s_41_17, s_41_18, s_41_19, s_41_20, s_41_21, s_41_22, s_41_23, s_41_24, s_41_25, s_41_26, s_41_27, s_41_28, s_41_29, s_41_30, s_41_31, s_41_32, s_41_33, s_41_34, s_41_35, s_41_36, s_41_37, s_41_38, s_41_39, s_41_40, s_41_41, s_41_42, s_41_43, s_41_44, s_41_45, s_41_46, s_41_47, s_41_49, s_41_50, s_41_51, s_41_52, s_41_53, s_41_54, s_41_55, s_41_56, s_41_57, s_41_58, s_41_59, s_41_59i, s_41_60, s_41_61, s_41_62, s_41_63, s_41_64, c1, if_true, Gk_v, Gk_n, xcat_nil, xcat_i, xcat_r, xcat_l, xcat_d, Nat.zero_le, Nat.reduceAdd, Nat.reduceLeDiff, true_and, and_true, ykl_i, ykl_r, ykl_n, ykl_l]
    · have c1 : ¬ yI j ≤ 1 := fun h => absurd ((yI_le (m := 1) (by omega) (by decide)).mp h) (by omega)
      have e1 : yI j - 1 = yI (j - 1) := yI_sub1 (by omega)
      have i1 : yix (yI (j - 1)) 6 := yix_I (by omega) (by omega)
      have e2 : (yI (j - 1)).toNatClampNeg = j - 1 := yI_clamp (by omega)
      have g1 := (k1 (j - 1) (by omega)).1
      have b1 := h3 (j - 1) (by omega)
      have c2 : yI (D.fp (j - 1)) ≤ yI p := (yI_le (by omega) (by omega)).mpr (by omega)
      simp only [s_41_0, s_41_1, s_41_2, s_41_3, s_41_4, s_41_5, s_41_6, s_41_7, s_41_8, s_41_9, s_41_10, s_41_11, s_41_12, s_41_13, s_41_14, s_41_16, s_41_17, s_41_18, s_41_19, s_41_20, s_41_21, s_41_22, s_41_23, s_41_24, s_41_25, s_41_26, s_41_27, s_41_28, s_41_29, s_41_30, s_41_31, s_41_32, s_41_33, s_41_34, s_41_35, s_41_36, s_41_37, s_41_38, s_41_39, s_41_40, s_41_41, s_41_42, s_41_43, s_41_44, s_41_45, s_41_46, s_41_47, s_41_49, s_41_50, s_41_51, s_41_52, s_41_53, s_41_54, s_41_55, s_41_56, s_41_57, s_41_58, s_41_59, s_41_59i, s_41_60, s_41_61, s_41_62, s_41_63, s_41_64, ho, c1, if_false, e1, yAs_8 ho, yns_8 ho, i1, e2, g1, c2, if_true, Gk_v, Gk_n, xcat_nil, xcat_i, xcat_r, xcat_l, xcat_d, Nat.zero_le, Nat.reduceAdd, Nat.reduceLeDiff, true_and, and_true, ykl_i, ykl_r, ykl_n, ykl_l]
  | succ m ih =>
    intro q t hq hqf k1 k2
    have c1 : ¬ yI q ≤ 1 := fun h => absurd ((yI_le (m := 1) (by omega) (by decide)).mp h) (by omega)
    have e1 : yI q - 1 = yI (q - 1) := yI_sub1 (by omega)
    have e3 : yI q + -1 = yI (q - 1) := yI_m1 (by omega)
    have i1 : yix (yI (q - 1)) 6 := yix_I (by omega) (by omega)
    have i2 : yix (yI q) 6 := yix_I (by omega) (by omega)
    have e2 : (yI (q - 1)).toNatClampNeg = q - 1 := yI_clamp (by omega)
    have e4 : (yI q).toNatClampNeg = q := yI_clamp (by omega)
    have g1 := k1 (q - 1) (by omega)
    have b1 := h4 (q - 1) (by omega) (by omega)
    have b2 := hfp (q - 1) (by omega)
    have c2 : ¬ yI (D.fp (q - 1)) ≤ yI p := fun h => absurd ((yI_le (by omega) (by omega)).mp h) (by omega)
    have g2 : (t.s1 (o + 8) q (yI (D.fp (q - 1)))).A (o + 9) (q - 1) = D.fl (q - 1) := by
      rw [ys1_ne (by omega)]
      exact g1.2
    obtain ⟨u, hu, u1, u2, Fu⟩ := ih (q - 1) ((t.s1 (o + 8) q (yI (D.fp (q - 1)))).s1 (o + 9) q (D.fl (q - 1))) (by omega) (by omega) (fun g hg => by
      rw [ys1_ne (by omega), ys1_upd, yupd_ne (by omega), ys1_upd, yupd_ne (by omega), ys1_ne (by omega)]
      exact k1 g (by omega)) (fun g hg1 hg2 => by
      rw [ys1_ne (by omega), ys1_upd, ys1_upd]
      by_cases e : g = q
      · rw [e, yupd_same, yupd_same]
        exact ⟨rfl, rfl⟩
      · rw [yupd_ne e, yupd_ne e, ys1_ne (by omega)]
        exact k2 g (by omega) hg2)
    refine ⟨u, fun Q => ?_, u1, u2, ((yFr_s1 (P := fun a => a = o + 8) rfl).trans (yFr_s1 (P := fun a => a = o + 9) rfl) (P'' := fun a => a = o + 8 ∨ a = o + 9) (fun a h => h)).trans Fu (fun a h => h.elim id id)⟩
    have hu' := hu Q
    rw [s_41_15]
    simp only [s_41_0, s_41_1, s_41_2, s_41_3, s_41_4, s_41_5, s_41_6, s_41_7, s_41_8, s_41_9, s_41_10, s_41_11, s_41_12, s_41_13, s_41_14, s_41_16, s_41_17, s_41_18, s_41_19, s_41_20, s_41_21, s_41_22, s_41_23, s_41_24, s_41_25, s_41_26, s_41_27, s_41_28, s_41_29, s_41_30, s_41_31, s_41_32, s_41_33, s_41_34, s_41_35, s_41_36, s_41_37, s_41_38, s_41_39, s_41_40, s_41_41, s_41_42, s_41_43, s_41_44, s_41_45, s_41_46, s_41_47, s_41_49, s_41_50, s_41_51, s_41_52, s_41_53, s_41_54, s_41_55, s_41_56, s_41_57, s_41_58, s_41_59, s_41_59i, s_41_60, s_41_61, s_41_62, s_41_63, s_41_64, ho, c1, if_false, e1, yAs_8 ho, yns_8 ho, yAs_9 ho, yns_9 ho, i1, i2, e2, e4, g1.1, c2, g2, e3, Gk_v, Gk_n, xcat_nil, xcat_i, xcat_r, xcat_l, xcat_d, Nat.zero_le, Nat.reduceAdd, Nat.reduceLeDiff, true_and, and_true, ykl_i, ykl_r, ykl_n, ykl_l]
    exact hu'
theorem m_41 {t : yT} (W : yW t o D) {p l : Nat} (hpn : p < D.n) (hl : l < 10000) (hp : ¬ p = 0 → ynof D p ∧ D.f < 6) : ∃ u, Ra d 41 [.ref o, .int (yI p), .int (yI l)] (yemb t) (.inl none) (yemb u) ∧ (yW u o (yaddf D p l) ∧ yFr (fun a => a = o ∨ a = o + 8 ∨ a = o + 9) t u) := by
  have hok := yaddf_ok W.ok hpn hl hp
  have hn40 := W.ok.n40
  unfold yaddf at hok ⊢
  by_cases e : p = 0
  · rw [if_pos e] at hok ⊢
    have e0 : yI p = 0 := by rw [e]; rfl
    have i0 : yix 0 6 := yix_I (n := 0) (by omega) (by omega)
    have e1 : (0 : Int32).toNatClampNeg = 0 := rfl
    refine ⟨t.s1 (o + 9) 0 (yI l), fun Q => ?_, ⟨hok, yV_sfl W.v⟩, (yFr_s1 (P := fun a => a = o + 9) rfl).mono (fun a h => Or.inr (Or.inr h))⟩
    show G d 41 0 [some (.ref o), some (.int (yI p)), some (.int (yI l)), none] [] (yemb t) Q ↔ _
    rw [e0]
    simp only [s_41_0, s_41_1, s_41_2, s_41_3, s_41_4, s_41_5, s_41_6, s_41_7, s_41_8, s_41_9, s_41_10, s_41_11, s_41_12, s_41_13, s_41_14, s_41_16, s_41_17, s_41_18, s_41_19, s_41_20, s_41_21, s_41_22, s_41_23, s_41_24, s_41_25, s_41_26, s_41_27, s_41_28, s_41_29, s_41_30, s_41_31, s_41_32, s_41_33, s_41_34, s_41_35, s_41_36, s_41_37, s_41_38, s_41_39, s_41_40, s_41_41, s_41_42, s_41_43, s_41_44, s_41_45, s_41_46, s_41_47, s_41_49, s_41_50, s_41_51, s_41_52, s_41_53, s_41_54, s_41_55, s_41_56, s_41_57, s_41_58, s_41_59, s_41_59i, s_41_60, s_41_61, s_41_62, s_41_63, s_41_64, W.oo, ne_eq, not_true_eq_false, if_false, yAs_9 W.oo, yns_9 W.oo, i0, e1, Gk_v, Gk_n, xcat_nil, xcat_i, xcat_r, xcat_l, xcat_d, Nat.zero_le, Nat.reduceAdd, Nat.reduceLeDiff, true_and, and_true, ykl_i, ykl_r, ykl_n, ykl_l]
  · rw [if_neg e] at hok ⊢
    obtain ⟨hn, h6⟩ := hp e
    obtain ⟨⟨j1, j2⟩, j3, j4⟩ := yfJ_ok W.ok e hn
    generalize yfJ D p = j at *
    have hfp : ∀ g, g < D.f → D.fp g < 40 := fun g hg => by have := W.ok.fpn g hg; omega
    obtain ⟨u, hu, u1, u2, Fu⟩ := l_41 (d := d) W.oo (x2 := yI l) (show p < 40 by omega) j1 (by omega) j3 j4 h6 hfp (D.f - j) D.f t (by omega) (Nat.le_refl _) (fun g hg => ⟨W.fp g hg, W.fl g hg⟩) (fun g h1 h2 => by omega)
    have c1 : ¬ yI p = 0 := fun h => e ((yI_inj (m := 0) (by omega) (by decide)).mp h)
    have c2 : ¬ (6 : Int32) ≤ yI D.f := fun h => absurd ((yI_le (n := 6) (by decide) (by omega)).mp h) (by omega)
    have i2 : yix (yI j) 6 := yix_I (by omega) (by omega)
    have e4 : (yI j).toNatClampNeg = j := yI_clamp (by omega)
    have e5 : yI D.f + 1 = yI (D.f + 1) := yI_add
    have F0 : u.A o = t.A o := Fu.A (by omega)
    have g12 : ((u.s1 (o + 8) j (yI p)).s1 (o + 9) j (yI l)).A o 12 = yI D.f := by
      rw [ys1_ne (by omega), ys1_ne (by omega), F0]
      exact W.f
    have FF : yFr (fun a => a = o ∨ a = o + 8 ∨ a = o + 9) t (((u.s1 (o + 8) j (yI p)).s1 (o + 9) j (yI l)).s1 o 12 (yI (D.f + 1))) := ((Fu.trans (yFr_s1 (P := fun a => a = o + 8) rfl) (P'' := fun a => a = o ∨ a = o + 8 ∨ a = o + 9) (fun a h => by omega)).trans (yFr_s1 (P := fun a => a = o + 9) rfl) (P'' := fun a => a = o ∨ a = o + 8 ∨ a = o + 9) (fun a h => by omega)).trans (yFr_s1 (P := fun a => a = o) rfl) (fun a h => by omega)
    have hL : u.L o = t.L o := Fu.L (by omega)
    have hR : u.R o = t.R o := Fu.R (by omega)
    refine ⟨((u.s1 (o + 8) j (yI p)).s1 (o + 9) j (yI l)).s1 o 12 (yI (D.f + 1)), fun Q => ?_, ⟨hok, yV_sfe W.v FF ?_ hL hR (fun g hg => ?_) (fun g hg => ?_)⟩, FF⟩
    · have hu' := hu Q
      show G d 41 0 [some (.ref o), some (.int (yI p)), some (.int (yI l)), none] [] (yemb t) Q ↔ _
      simp only [s_41_0, s_41_1, s_41_2, s_41_3, s_41_4, s_41_5, s_41_6, s_41_7, s_41_8, s_41_9, s_41_10, s_41_11, s_41_12, s_41_13, s_41_14, s_41_16, s_41_17, s_41_18, s_41_19, s_41_20, s_41_21, s_41_22, s_41_23, s_41_24, s_41_25, s_41_26, s_41_27, s_41_28, s_41_29, s_41_30, s_41_31, s_41_32, s_41_33, s_41_34, s_41_35, s_41_36, s_41_37, s_41_38, s_41_39, s_41_40, s_41_41, s_41_42, s_41_43, s_41_44, s_41_45, s_41_46, s_41_47, s_41_49, s_41_50, s_41_51, s_41_52, s_41_53, s_41_54, s_41_55, s_41_56, s_41_57, s_41_58, s_41_59, s_41_59i, s_41_60, s_41_61, s_41_62, s_41_63, s_41_64, W.oo, ne_eq, c1, not_false_eq_true, if_true, c2, if_false, W.f, Gk_v, Gk_n, xcat_nil, xcat_i, xcat_r, xcat_l, xcat_d, Nat.zero_le, Nat.reduceAdd, Nat.reduceLeDiff, true_and, and_true, ykl_i, ykl_r, ykl_n, ykl_l]
      refine Iff.trans hu' ?_
      rw [s_41_48]
      simp only [s_41_0, s_41_1, s_41_2, s_41_3, s_41_4, s_41_5, s_41_6, s_41_7, s_41_8, s_41_9, s_41_10, s_41_11, s_41_12, s_41_13, s_41_14, s_41_16, s_41_17, s_41_18, s_41_19, s_41_20, s_41_21, s_41_22, s_41_23, s_41_24, s_41_25, s_41_26, s_41_27, s_41_28, s_41_29, s_41_30, s_41_31, s_41_32, s_41_33, s_41_34, s_41_35, s_41_36, s_41_37, s_41_38, s_41_39, s_41_40, s_41_41, s_41_42, s_41_43, s_41_44, s_41_45, s_41_46, s_41_47, s_41_49, s_41_50, s_41_51, s_41_52, s_41_53, s_41_54, s_41_55, s_41_56, s_41_57, s_41_58, s_41_59, s_41_59i, s_41_60, s_41_61, s_41_62, s_41_63, s_41_64, W.oo, yAs_8 W.oo, yns_8 W.oo, yAs_9 W.oo, yns_9 W.oo, i2, e4, g12, e5, Gk_v, Gk_n, xcat_nil, xcat_i, xcat_r, xcat_l, xcat_d, Nat.zero_le, Nat.reduceAdd, Nat.reduceLeDiff, true_and, and_true, ykl_i, ykl_r, ykl_n, ykl_l]
    · rw [ys1_upd, ys1_ne (by omega), ys1_ne (by omega), F0]
    · rw [ys1_ne (by omega), ys1_ne (by omega), ys1_upd]
      unfold yinsN
      by_cases c3 : g < j
      · rw [if_pos c3, yupd_ne (by omega)]
        exact (u1 g c3).1
      · rw [if_neg c3]
        by_cases c4 : g = j
        · rw [if_pos c4, c4, yupd_same]
        · rw [if_neg c4, yupd_ne c4]
          exact (u2 g (by omega) (by omega)).1
    · rw [ys1_ne (by omega), ys1_upd]
      unfold yinsI
      by_cases c3 : g < j
      · rw [if_pos c3, yupd_ne (by omega), ys1_ne (by omega)]
        exact (u1 g c3).2
      · rw [if_neg c3]
        by_cases c4 : g = j
        · rw [if_pos c4, c4, yupd_same]
        · rw [if_neg c4, yupd_ne c4, ys1_ne (by omega)]
          exact (u2 g (by omega) (by omega)).2
end

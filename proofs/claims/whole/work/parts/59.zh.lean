/-! ===== the model's factors and sums whole ===== -/
section
variable {d : Nat} {n : Nat} {B : Nat → Nat}
theorem yKj_18 {t : yT} {x : Int32} : yKj t (t.s1 160 18 x) :=
  ⟨fun j _ _ _ _ h => by rw [ys1_upd, yupd_ne h], fun j _ _ => by rw [ys1_ne (by decide)], (yFr_s1 (P := fun a => a = 160) rfl).mono (fun a h => Or.inl h), rfl⟩
theorem yMr_18 {t : yT} {m k k' : Nat} {l : List Int32} (M : yMr t n B m l k) : yMr (t.s1 160 18 (yI k')) n B m l k' :=
  ⟨yYt_4 M.1 (by decide), M.2.1, by rw [ys1_upd, yupd_ne (by decide)]; exact M.2.2.1, by rw [ys1_upd, yupd_ne (by decide)]; exact M.2.2.2.1, ys1_same, by rw [ys1_ne (by decide)]; exact M.2.2.2.2.2.1, by rw [ys1_upd, yupd_ne (by decide)]; exact M.2.2.2.2.2.2⟩
theorem l_139a {t : yT} {x1 x2 x3 : Option Value} : Gg d 139 19 [some (.ref 160), x1, x2, x3] [] (yemb t) 31 [some (.ref 160), x1, x2, x3] [] (yemb ((t.s1 160 4 (t.A 160 4 + 1)).s1 160 18 (t.A 160 18 + 1))) := by
  intro Q
  have e : (t.s1 160 4 (t.A 160 4 + 1)).A 160 18 = t.A 160 18 := by rw [ys1_upd, yupd_ne (by decide)]
  simp only [s_139_0, s_139_1, s_139_2, s_139_3, s_139_4, s_139_5, s_139_6, s_139_7, s_139_8, s_139_9, s_139_10, s_139_11, s_139_12, s_139_13, s_139_14, s_139_15, s_139_16, s_139_17, s_139_18, s_139_19, s_139_20, s_139_20i, s_139_21, s_139_22, s_139_23, s_139_24, s_139_25, s_139_26, s_139_26i, s_139_27, s_139_28, s_139_29, s_139_30, s_139_32, s_139_33, s_139_34, s_139_35, s_139_36, s_139_37, s_139_37i, s_139_38, s_139_39, s_139_40, s_139_41, s_139_42, s_139_43, s_139_44, s_139_45, s_139_46, s_139_47, s_139_48, s_139_49, s_139_50, s_139_51, s_139_52, s_139_53, s_139_54, s_139_55, s_139_56, s_139_57, s_139_58, s_139_59, s_139_60, s_139_61, s_139_62, s_139_63, s_139_64, s_139_65, s_139_66, s_139_67, s_139_68, s_139_69, s_139_70, s_139_71, s_139_72, s_139_73, s_139_74, s_139_75, s_139_76, s_139_77, s_139_78, s_139_79, s_139_80, s_139_81, yO_160, e, Gk_v, Gk_n, xcat_nil, xcat_i, xcat_r, xcat_l, xcat_d, Nat.zero_le, Nat.reduceAdd, Nat.reduceLeDiff, true_and, and_true, ykl_i, ykl_r, ykl_n, ykl_l]
theorem l_139b {t : yT} {x1 x2 x3 : Option Value} : Ga d 139 36 [some (.ref 160), x1, x2, x3] [] (yemb t) (.inl none) (yemb (t.s1 160 18 (t.A 160 18 - 1))) := by
  intro Q
  simp only [s_139_0, s_139_1, s_139_2, s_139_3, s_139_4, s_139_5, s_139_6, s_139_7, s_139_8, s_139_9, s_139_10, s_139_11, s_139_12, s_139_13, s_139_14, s_139_15, s_139_16, s_139_17, s_139_18, s_139_19, s_139_20, s_139_20i, s_139_21, s_139_22, s_139_23, s_139_24, s_139_25, s_139_26, s_139_26i, s_139_27, s_139_28, s_139_29, s_139_30, s_139_31, s_139_32, s_139_33, s_139_34, s_139_35, s_139_36, s_139_37, s_139_37i, s_139_38, s_139_39, s_139_40, s_139_41, s_139_42, s_139_43, s_139_44, s_139_45, s_139_46, s_139_47, s_139_48, s_139_49, s_139_50, s_139_51, s_139_52, s_139_53, s_139_54, s_139_55, s_139_56, s_139_57, s_139_58, s_139_59, s_139_60, s_139_61, s_139_62, s_139_63, s_139_64, s_139_65, s_139_66, s_139_67, s_139_68, s_139_69, s_139_70, s_139_71, s_139_72, s_139_73, s_139_74, s_139_75, s_139_76, s_139_77, s_139_78, s_139_79, s_139_80, s_139_81, yO_160, Gk_v, Gk_n, xcat_nil, xcat_i, xcat_r, xcat_l, xcat_d, Nat.zero_le, Nat.reduceAdd, Nat.reduceLeDiff, true_and, and_true, ykl_i, ykl_r, ykl_n, ykl_l]
theorem m_139z {t : yT} {m : Nat} {l : List Int32} (M : yMr t n B m l 4) (h40 : yat n B (ysk n B m) 40 = true) : yMz (fun u => Ra (d + 5) 139 [.ref 160] (yemb t) (.inl none) (yemb u)) t n B 4 (.inl (-6, ysk n B m)) := by
  have hY := yYt_b M.1
  obtain ⟨u1, h1, M1, K1⟩ := m_131M (d := d + 3) M
  have g := m_132 (d := d + 4) (t := t)
  rw [decide_eq_true M.2.2.2.1] at g
  generalize ysk n B m = q at *
  have y40 : ybt n B q = 40 := ybt_ye hY (c := 40) (by decide) h40
  rw [y40] at h1
  have g133 := m_133 (d := d + 4) (t := u1) (c := -6) (a := yI q) M1.2.2.2.1
  have e4 : u1.A 160 4 = yI q := M1.2.2.1
  have e18 : u1.A 160 18 = 4 := M1.2.2.2.2.1
  obtain ⟨v, ev⟩ : ∃ v, v = (u1.s1 160 5 (-6)).s1 160 6 (yI q) := ⟨_, rfl⟩
  rw [← ev] at g133
  have v5 : v.A 160 5 = -6 := by rw [ev, ys1_upd, yupd_ne (by decide)]; exact ys1_same
  have v6 : v.A 160 6 = yI q := by rw [ev]; exact ys1_same
  have Kv : yKj u1 v := by
    rw [ev]
    exact yKj_n (fun j _ h5 h6 _ => by rw [ys1_upd, yupd_ne h6, ys1_upd, yupd_ne h5]) (yFe_tr yFe_s1 yFe_s1)
  obtain ⟨w, ew⟩ : ∃ w, w = (v.s1 160 4 (v.A 160 4 + 1)).s1 160 18 (v.A 160 18 + 1) := ⟨_, rfl⟩
  have w5 : w.A 160 5 = -6 := by rw [ew, ys1_upd, yupd_ne (by decide), ys1_upd, yupd_ne (by decide)]; exact v5
  have w6 : w.A 160 6 = yI q := by rw [ew, ys1_upd, yupd_ne (by decide), ys1_upd, yupd_ne (by decide)]; exact v6
  have Kw : yKj v w := by
    rw [ew]
    exact yKj_tr (yKj_n (fun j h4 _ _ _ => by rw [ys1_upd, yupd_ne h4]) yFe_s1) yKj_18
  have ga := fun (x1 x2 x3 : Option Value) => l_139a (d := d + 5) (t := v) (x1 := x1) (x2 := x2) (x3 := x3)
  rw [← ew] at ga
  have w0 : ¬ w.A 160 5 = 0 := by rw [w5]; decide
  have g141 := m_141n (d := d + 1) w0
  have g136 := fun (c : Int32) => m_136n (d := d + 2) w0 (c := c)
  have gb := fun (x1 x2 x3 : Option Value) => l_139b (d := d + 5) (t := w) (x1 := x1) (x2 := x2) (x3 := x3)
  have c0 : ¬ (-6 : Int32) = 0 := by decide
  refine ⟨w.s1 160 18 (w.A 160 18 - 1), fun Q => ?_, ?_, ?_, ?_, yKj_tr (yKj_tr (yKj_tr K1 Kv) Kw) yKj_18⟩
  · show G (d + 5) 139 0 [some (.ref 160), none, none, none] [] (yemb t) Q ↔ _
    simp only [s_139_0, s_139_1, s_139_2, s_139_3, s_139_4, s_139_5, s_139_6, s_139_7, s_139_8, s_139_9, s_139_10, s_139_11, s_139_12, s_139_13, s_139_14, s_139_15, s_139_16, s_139_17, s_139_18, s_139_20, s_139_20i, s_139_21, s_139_22, s_139_23, s_139_24, s_139_25, s_139_26, s_139_26i, s_139_27, s_139_28, s_139_29, s_139_30, s_139_31, s_139_32, s_139_33, s_139_34, s_139_35, s_139_37, s_139_37i, s_139_38, s_139_39, s_139_40, s_139_41, s_139_42, s_139_43, s_139_44, s_139_45, s_139_46, s_139_47, s_139_48, s_139_49, s_139_50, s_139_51, s_139_52, s_139_53, s_139_54, s_139_55, s_139_56, s_139_57, s_139_58, s_139_59, s_139_60, s_139_61, s_139_62, s_139_63, s_139_64, s_139_65, s_139_66, s_139_67, s_139_68, s_139_69, s_139_70, s_139_71, s_139_72, s_139_73, s_139_74, s_139_75, s_139_76, s_139_77, s_139_78, s_139_79, s_139_80, s_139_81, yO_160, g, ifbn, if_true, if_false, h1, ne_eq, not_true_eq_false, e18, e4, g133, ga, g141, g136, gb, Gk_v, Gk_n, xcat_nil, xcat_i, xcat_r, xcat_l, xcat_d, Nat.zero_le, Nat.reduceAdd, Nat.reduceLeDiff, true_and, and_true, ykl_i, ykl_r, ykl_n, ykl_l]
  · rw [ys1_upd, yupd_ne (by decide), w5]; decide
  · rw [ys1_upd, yupd_ne (by decide)]; exact w5
  · rw [ys1_upd, yupd_ne (by decide)]; exact w6
theorem m_139 : ∀ k, k ≤ 4 → yFn (d + 5 + 3 * k) 139 n B (4 - k) (yfac n B k) := by
  intro k
  induction k with
  | zero =>
    intro _ t m l M hlq
    rw [yfac]
    cases h40 : yat n B (ysk n B m) 40
    · rw [if_neg (by decide)]
      exact m_139l (d := d) M hlq h40
    · rw [if_pos rfl]
      exact m_139z (d := d) M h40
  | succ k ih =>
    intro hk t m l M hlq
    have H := ih (by omega)
    rw [yfac]
    cases h40 : yat n B (ysk n B m) 40
    · rw [if_neg (by decide)]
      have hL := m_139l (d := d + 3 * (k + 1)) M hlq h40
      rw [show d + 3 * (k + 1) + 5 = d + 5 + 3 * (k + 1) by omega] at hL
      exact hL
    · rw [if_pos rfl]
      have h600 := M.1.1
      have hY := yYt_b M.1
      have eD : d + 5 + 3 * (k + 1) = (d + 3 + 3 * k) + 5 := by omega
      rw [eD]
      rw [show d + 5 + 3 * k = (d + 3 + 3 * k) + 2 by omega] at H
      generalize d + 3 + 3 * k = D at *
      have HS : yFn (D + 4) 141 n B (4 - k) (ysu n B (yfac n B k)) := m_141 (d := D + 1) (fun q l q' l' hq h => ytm_fwd (yfac_fwd k) hq h) (fun q l q' l' hq h => ytm_len (yfac_fwd k) (yfac_len k) hq h) (m_140 (d := D) (yfac_fwd k) (yfac_len k) H)
      obtain ⟨u1, h1, M1, K1⟩ := m_131M (d := D + 3) M
      have g := m_132 (d := D + 4) (t := t)
      rw [decide_eq_true M.2.2.2.1] at g
      have hlt : ysk n B m < n := (of_decide_eq_true h40).1
      have hs := ysk_le (n := n) (B := B) (m := ysk n B m + 1) (by omega)
      generalize ysk n B m = q at *
      have y40 : ybt n B q = 40 := ybt_ye hY (c := 40) (by decide) h40
      rw [y40] at h1
      have e4 : u1.A 160 4 = yI q := M1.2.2.1
      have e18 : u1.A 160 18 = yI (4 - (k + 1)) := M1.2.2.2.2.1
      have e18n : ¬ yI (4 - (k + 1)) = 4 := fun h => by
        have := (yI_inj (m := 4) (by omega) (by decide)).mp h
        omega
      have e5 : yI q + 1 = yI (q + 1) := yI_add
      have e6 : yI (4 - (k + 1)) + 1 = yI (4 - k) := by
        have e : yI (4 - (k + 1)) + 1 = yI (4 - (k + 1) + 1) := yI_add
        rw [e, show 4 - (k + 1) + 1 = 4 - k by omega]
      have e7 : yI (4 - k) - 1 = yI (4 - (k + 1)) := by
        rw [yI_sub1 (by omega), show 4 - k - 1 = 4 - (k + 1) by omega]
      have ga := fun (x1 x2 x3 : Option Value) => l_139a (d := D + 5) (t := u1) (x1 := x1) (x2 := x2) (x3 := x3)
      rw [e4, e18, e5, e6] at ga
      obtain ⟨M2, K2⟩ := yMr_1 M1 (m' := q + 1) (by omega)
      have M3 := yMr_18 M2 (k' := 4 - k)
      have K3 : yKj t ((u1.s1 160 4 (yI (q + 1))).s1 160 18 (yI (4 - k))) := yKj_tr (yKj_tr K1 K2) yKj_18
      have hS := HS _ _ l M3 (by omega)
      generalize (u1.s1 160 4 (yI (q + 1))).s1 160 18 (yI (4 - k)) = w at *
      cases hr : ysu n B (yfac n B k) (ysk n B (q + 1)) l with
      | inl e =>
        obtain ⟨c, a⟩ := e
        rw [hr] at hS
        obtain ⟨u, hu, un, u5, u6, Ku⟩ := hS
        have g136 := fun (c : Int32) => m_136n (d := D + 2) un (c := c)
        have gb := fun (x1 x2 x3 : Option Value) => l_139b (d := D + 5) (t := u) (x1 := x1) (x2 := x2) (x3 := x3)
        refine ⟨u.s1 160 18 (u.A 160 18 - 1), fun Q => ?_, ?_, ?_, ?_, yKj_tr (yKj_tr K3 Ku) yKj_18⟩
        · show G (D + 5) 139 0 [some (.ref 160), none, none, none] [] (yemb t) Q ↔ _
          simp only [s_139_0, s_139_1, s_139_2, s_139_3, s_139_4, s_139_5, s_139_6, s_139_7, s_139_8, s_139_9, s_139_10, s_139_11, s_139_12, s_139_13, s_139_14, s_139_15, s_139_16, s_139_17, s_139_18, s_139_20, s_139_20i, s_139_21, s_139_22, s_139_23, s_139_24, s_139_25, s_139_26, s_139_26i, s_139_27, s_139_28, s_139_29, s_139_30, s_139_31, s_139_32, s_139_33, s_139_34, s_139_35, s_139_37, s_139_37i, s_139_38, s_139_39, s_139_40, s_139_41, s_139_42, s_139_43, s_139_44, s_139_45, s_139_46, s_139_47, s_139_48, s_139_49, s_139_50, s_139_51, s_139_52, s_139_53, s_139_54, s_139_55, s_139_56, s_139_57, s_139_58, s_139_59, s_139_60, s_139_61, s_139_62, s_139_63, s_139_64, s_139_65, s_139_66, s_139_67, s_139_68, s_139_69, s_139_70, s_139_71, s_139_72, s_139_73, s_139_74, s_139_75, s_139_76, s_139_77, s_139_78, s_139_79, s_139_80, s_139_81, yO_160, g, ifbn, if_true, if_false, h1, ne_eq, not_true_eq_false, not_false_eq_true, e18, e18n, ga, hu, g136, gb, Gk_v, Gk_n, xcat_nil, xcat_i, xcat_r, xcat_l, xcat_d, Nat.zero_le, Nat.reduceAdd, Nat.reduceLeDiff, true_and, and_true, ykl_i, ykl_r, ykl_n, ykl_l]
        · rw [ys1_upd, yupd_ne (by decide)]; exact un
        · rw [ys1_upd, yupd_ne (by decide)]; exact u5
        · rw [ys1_upd, yupd_ne (by decide)]; exact u6
      | inr z =>
        obtain ⟨q1, l1⟩ := z
        rw [hr] at hS
        obtain ⟨u, m1, hu, Mu, hq1, Ku⟩ := hS
        have g1 := ysu_fwd (yfac_fwd k) hs.2 hr
        subst hq1
        rw [ythen_ok]
        have e18u : u.A 160 18 = yI (4 - k) := Mu.2.2.2.2.1
        cases h41 : yat n B (ysk n B m1) 41
        · rw [if_neg (by decide)]
          obtain ⟨u2, hu2, x4, x5, x6, xj, F2⟩ := m_136f (d := D + 2) Mu.1 (c := 41) Mu.2.1 Mu.2.2.1 Mu.2.2.2.1 (by decide) (of_decide_eq_false h41)
          have hu2' : ∀ Q', Cl (D + 4) 136 [.ref 160, .int 41] (yemb u) Q' ↔ Q' _ _ := hu2
          have gb := fun (x1 x2 x3 : Option Value) => l_139b (d := D + 5) (t := u2) (x1 := x1) (x2 := x2) (x3 := x3)
          have K5 : yKj u u2 := yKj_n (fun j a b c _ => xj j a b c) F2
          refine ⟨u2.s1 160 18 (u2.A 160 18 - 1), fun Q => ?_, ?_, ?_, ?_, yKj_tr (yKj_tr (yKj_tr K3 Ku) K5) yKj_18⟩
          · show G (D + 5) 139 0 [some (.ref 160), none, none, none] [] (yemb t) Q ↔ _
            simp only [s_139_0, s_139_1, s_139_2, s_139_3, s_139_4, s_139_5, s_139_6, s_139_7, s_139_8, s_139_9, s_139_10, s_139_11, s_139_12, s_139_13, s_139_14, s_139_15, s_139_16, s_139_17, s_139_18, s_139_20, s_139_20i, s_139_21, s_139_22, s_139_23, s_139_24, s_139_25, s_139_26, s_139_26i, s_139_27, s_139_28, s_139_29, s_139_30, s_139_31, s_139_32, s_139_33, s_139_34, s_139_35, s_139_37, s_139_37i, s_139_38, s_139_39, s_139_40, s_139_41, s_139_42, s_139_43, s_139_44, s_139_45, s_139_46, s_139_47, s_139_48, s_139_49, s_139_50, s_139_51, s_139_52, s_139_53, s_139_54, s_139_55, s_139_56, s_139_57, s_139_58, s_139_59, s_139_60, s_139_61, s_139_62, s_139_63, s_139_64, s_139_65, s_139_66, s_139_67, s_139_68, s_139_69, s_139_70, s_139_71, s_139_72, s_139_73, s_139_74, s_139_75, s_139_76, s_139_77, s_139_78, s_139_79, s_139_80, s_139_81, yO_160, g, ifbn, if_true, if_false, h1, ne_eq, not_true_eq_false, not_false_eq_true, e18, e18n, ga, hu, hu2', gb, Gk_v, Gk_n, xcat_nil, xcat_i, xcat_r, xcat_l, xcat_d, Nat.zero_le, Nat.reduceAdd, Nat.reduceLeDiff, true_and, and_true, ykl_i, ykl_r, ykl_n, ykl_l]
          · rw [ys1_upd, yupd_ne (by decide), x5]; decide
          · rw [ys1_upd, yupd_ne (by decide)]; exact x5
          · rw [ys1_upd, yupd_ne (by decide)]; exact x6
        · rw [if_pos rfl]
          have hlt1 := (of_decide_eq_true h41).1
          obtain ⟨u2, hu2, x4, xj, F2⟩ := m_136t (d := D + 2) Mu.1 (c := 41) Mu.2.1 Mu.2.2.1 Mu.2.2.2.1 (by decide) (of_decide_eq_true h41)
          have hu2' : ∀ Q', Cl (D + 4) 136 [.ref 160, .int 41] (yemb u) Q' ↔ Q' _ _ := hu2
          obtain ⟨M5, K5⟩ := yMr_4 Mu (show ysk n B m1 + 1 ≤ n by omega) x4 xj F2
          have M6 := yMr_18 M5 (k' := 4 - (k + 1))
          have e18v : u2.A 160 18 = yI (4 - k) := M5.2.2.2.2.1
          have gb := fun (x1 x2 x3 : Option Value) => l_139b (d := D + 5) (t := u2) (x1 := x1) (x2 := x2) (x3 := x3)
          rw [e18v, e7] at gb
          refine ⟨u2.s1 160 18 (yI (4 - (k + 1))), ysk n B m1 + 1, fun Q => ?_, M6, rfl, yKj_tr (yKj_tr (yKj_tr K3 Ku) K5) yKj_18⟩
          show G (D + 5) 139 0 [some (.ref 160), none, none, none] [] (yemb t) Q ↔ _
          simp only [s_139_0, s_139_1, s_139_2, s_139_3, s_139_4, s_139_5, s_139_6, s_139_7, s_139_8, s_139_9, s_139_10, s_139_11, s_139_12, s_139_13, s_139_14, s_139_15, s_139_16, s_139_17, s_139_18, s_139_20, s_139_20i, s_139_21, s_139_22, s_139_23, s_139_24, s_139_25, s_139_26, s_139_26i, s_139_27, s_139_28, s_139_29, s_139_30, s_139_31, s_139_32, s_139_33, s_139_34, s_139_35, s_139_37, s_139_37i, s_139_38, s_139_39, s_139_40, s_139_41, s_139_42, s_139_43, s_139_44, s_139_45, s_139_46, s_139_47, s_139_48, s_139_49, s_139_50, s_139_51, s_139_52, s_139_53, s_139_54, s_139_55, s_139_56, s_139_57, s_139_58, s_139_59, s_139_60, s_139_61, s_139_62, s_139_63, s_139_64, s_139_65, s_139_66, s_139_67, s_139_68, s_139_69, s_139_70, s_139_71, s_139_72, s_139_73, s_139_74, s_139_75, s_139_76, s_139_77, s_139_78, s_139_79, s_139_80, s_139_81, yO_160, g, ifbn, if_true, if_false, h1, ne_eq, not_true_eq_false, not_false_eq_true, e18, e18n, ga, hu, hu2', gb, Gk_v, Gk_n, xcat_nil, xcat_i, xcat_r, xcat_l, xcat_d, Nat.zero_le, Nat.reduceAdd, Nat.reduceLeDiff, true_and, and_true, ykl_i, ykl_r, ykl_n, ykl_l]
theorem m_141' {t : yT} {m : Nat} (M : yMr t n B m [] 0) : yMz (fun u => Ra (d + 19) 141 [.ref 160] (yemb t) (.inl none) (yemb u)) t n B 0 (ysum' n B (ysk n B m)) :=
  m_141 (d := d + 16) (fun q l q' l' hq h => ytm_fwd (yfac_fwd 4) hq h) (fun q l q' l' hq h => ytm_len (yfac_fwd 4) (yfac_len 4) hq h) (m_140 (d := d + 15) (yfac_fwd 4) (yfac_len 4) (m_139 (d := d) 4 (Nat.le_refl _))) t m [] M (Nat.zero_le _)
end

/-! ===== the model's setups whole ===== -/
section
variable {d : Nat} {t : yT} {n : Nat} {B : Nat → Nat} {m q : Nat} {U : yU}
theorem l_150e {w : yT} {x1 x2 x3 : Int32} (h5 : ¬ w.A 160 5 = 0) : Gg (d + 22) 150 48 [some (.ref 160), some (.int x1), some (.int x2), some (.int x3)] [] (yemb w) 58 [some (.ref 160), some (.int x1), some (.int x2), some (.int x3)] [] (yemb w) := by
  intro Q
  have g132 := w_132n (d := d + 21) h5
  rw [s_150_48]
  simp only [s_150_0, s_150_1, s_150_2, s_150_3, s_150_4, s_150_5, s_150_6, s_150_7, s_150_8, s_150_9, s_150_10, s_150_11, s_150_12, s_150_13, s_150_14, s_150_15, s_150_16, s_150_17, s_150_18, s_150_19, s_150_20, s_150_21, s_150_22, s_150_23, s_150_24, s_150_25, s_150_26, s_150_27, s_150_28, s_150_29, s_150_30, s_150_31, s_150_32, s_150_33, s_150_34, s_150_35, s_150_36, s_150_37, s_150_38, s_150_39, s_150_40, s_150_41, s_150_42, s_150_43, s_150_44, s_150_45, s_150_46, s_150_47, s_150_49, s_150_50, s_150_51, s_150_52, s_150_53, s_150_54, s_150_55, s_150_56, s_150_57, s_150_59, s_150_60, s_150_61, s_150_62, s_150_63, s_150_64, s_150_65, s_150_66, s_150_67, s_150_68, s_150_69, s_150_70, s_150_71, s_150_72, s_150_73, s_150_74, s_150_75, s_150_76, s_150_77, s_150_78, s_150_79, s_150_80, yO_160, g132, if_true, Gk_v, Gk_n, xcat_nil, xcat_i, xcat_r, xcat_l, xcat_d, Nat.zero_le, Nat.reduceAdd, Nat.reduceLeDiff, true_and, and_true, ykl_i, ykl_r, ykl_n, ykl_l]
theorem l_150 (hn : n ≤ 600) {x1 x2 x3 : Int32} : ∀ f m (U : yU) (t : yT), n - ysk n B m ≤ f → yUk U → yMs t n B m U → yRm (fun u => Gg (d + 22) 150 48 [some (.ref 160), some (.int x1), some (.int x2), some (.int x3)] [] (yemb t) 58 [some (.ref 160), some (.int x1), some (.int x2), some (.int x3)] [] (yemb u)) t n B (yrl n B f (ysk n B m) U) := by
  have fin : ∀ m (U : yU) (t : yT), yMs t n B m U → n ≤ ysk n B m → yRm (fun u => Gg (d + 22) 150 48 [some (.ref 160), some (.int x1), some (.int x2), some (.int x3)] [] (yemb t) 58 [some (.ref 160), some (.int x1), some (.int x2), some (.int x3)] [] (yemb u)) t n B (.inr (ysk n B m, U)) := by
    intro m U t M hq
    obtain ⟨u, hu, Mu, Ku⟩ := w_131 (d := d + 20) M
    have g132 := w_132 (d := d + 21) M
    have c10 : ¬ (1 : Int32) = 0 := by decide
    have e : ybt n B (ysk n B m) = -1 := by
      unfold ybt
      rw [if_neg (by omega)]
    rw [e] at hu
    refine ⟨u, _, fun Q => ?_, Mu, ysk_idem M.2.1, Ku⟩
    rw [s_150_48]
    simp only [s_150_0, s_150_1, s_150_2, s_150_3, s_150_4, s_150_5, s_150_6, s_150_7, s_150_8, s_150_9, s_150_10, s_150_11, s_150_12, s_150_13, s_150_14, s_150_15, s_150_16, s_150_17, s_150_18, s_150_19, s_150_20, s_150_21, s_150_22, s_150_23, s_150_24, s_150_25, s_150_26, s_150_27, s_150_28, s_150_29, s_150_30, s_150_31, s_150_32, s_150_33, s_150_34, s_150_35, s_150_36, s_150_37, s_150_38, s_150_39, s_150_40, s_150_41, s_150_42, s_150_43, s_150_44, s_150_45, s_150_46, s_150_47, s_150_49, s_150_50, s_150_51, s_150_52, s_150_53, s_150_54, s_150_55, s_150_56, s_150_57, s_150_59, s_150_60, s_150_61, s_150_62, s_150_63, s_150_64, s_150_65, s_150_66, s_150_67, s_150_68, s_150_69, s_150_70, s_150_71, s_150_72, s_150_73, s_150_74, s_150_75, s_150_76, s_150_77, s_150_78, s_150_79, s_150_80, yO_160, g132, c10, if_false, hu, if_true, Gk_v, Gk_n, xcat_nil, xcat_i, xcat_r, xcat_l, xcat_d, Nat.zero_le, Nat.reduceAdd, Nat.reduceLeDiff, true_and, and_true, ykl_i, ykl_r, ykl_n, ykl_l]
  intro f
  induction f with
  | zero =>
    intro m U t hm K M
    exact fin m U t M (by omega)
  | succ f ih =>
    intro m U t hm K M
    have hs := ysk_le (n := n) (B := B) M.2.1
    rw [yrl]
    by_cases hq : n ≤ ysk n B m
    · rw [if_pos hq]
      exact fin m U t M hq
    · rw [if_neg hq]
      obtain ⟨u, hu, Mu, Ku⟩ := w_131 (d := d + 20) M
      have g132 := w_132 (d := d + 21) M
      have c10 : ¬ (1 : Int32) = 0 := by decide
      have hid := ysk_idem (n := n) (B := B) M.2.1
      have hb := yYt_b M.1 (ysk n B m) (by omega)
      have e : ¬ ybt n B (ysk n B m) = -1 := by
        unfold ybt
        rw [if_pos (by omega)]
        intro h
        have := yI_nneg (n := B (ysk n B m)) (by omega)
        rw [h] at this
        exact this (by decide)
      have H := m_148 (d := d) K Mu
      rw [hid] at H
      have step : ∀ w, Ra (d + 21) 148 [.ref 160] (yemb u) (.inl none) (yemb w) → Gg (d + 22) 150 48 [some (.ref 160), some (.int x1), some (.int x2), some (.int x3)] [] (yemb t) 48 [some (.ref 160), some (.int x1), some (.int x2), some (.int x3)] [] (yemb w) := by
        intro w hw Q
        rw [s_150_48]
        simp only [s_150_0, s_150_1, s_150_2, s_150_3, s_150_4, s_150_5, s_150_6, s_150_7, s_150_8, s_150_9, s_150_10, s_150_11, s_150_12, s_150_13, s_150_14, s_150_15, s_150_16, s_150_17, s_150_18, s_150_19, s_150_20, s_150_21, s_150_22, s_150_23, s_150_24, s_150_25, s_150_26, s_150_27, s_150_28, s_150_29, s_150_30, s_150_31, s_150_32, s_150_33, s_150_34, s_150_35, s_150_36, s_150_37, s_150_38, s_150_39, s_150_40, s_150_41, s_150_42, s_150_43, s_150_44, s_150_45, s_150_46, s_150_47, s_150_49, s_150_50, s_150_51, s_150_52, s_150_53, s_150_54, s_150_55, s_150_56, s_150_57, s_150_59, s_150_60, s_150_61, s_150_62, s_150_63, s_150_64, s_150_65, s_150_66, s_150_67, s_150_68, s_150_69, s_150_70, s_150_71, s_150_72, s_150_73, s_150_74, s_150_75, s_150_76, s_150_77, s_150_78, s_150_79, s_150_80, yO_160, g132, c10, if_false, hu, e, hw, Gk_v, Gk_n, xcat_nil, xcat_i, xcat_r, xcat_l, xcat_d, Nat.zero_le, Nat.reduceAdd, Nat.reduceLeDiff, true_and, and_true, ykl_i, ykl_r, ykl_n, ykl_l]
      rcases hr : yrst' n B (ysk n B m) U with ⟨c, a⟩ | ⟨q1, U1⟩
      · rw [hr] at H
        obtain ⟨w, hw, E, Kw⟩ := H
        exact ⟨w, fun Q => ((step w hw) Q).trans (l_150e (d := d) E.1 Q), E, yKn_tr Ku Kw⟩
      · have hok := yrst'_ok hn K hs.2 hr
        rw [hr] at H
        obtain ⟨w, m', hw, Mw, hm', Kw⟩ := H
        subst hm'
        exact yRm_to (yKn_tr Ku Kw) (fun x h Q => ((step w hw) Q).trans (h Q)) (ih m' U1 w (by omega) hok.1 Mw)
/-- ahead of a setup -/
abbrev yMq (t : yT) (n : Nat) (B : Nat → Nat) (m : Nat) : Prop := yYt t n B ∧ (m ≤ n ∧ (t.A 160 4 = yI m ∧ ((t.A 160 5 = 0 ∧ t.A 160 6 = -1) ∧ (t.A 160 18 = yI 0 ∧ ((t.L 160 20 = 0 ∧ t.L 160 21 = 0) ∧ t.A 160 19 = 0)))))
theorem yMq_e {u : yT} {m' : Nat} (M : yMq t n B m) (hm : m' ≤ n) (h4 : u.A 160 4 = yI m') (hj : ∀ j, j ≠ 4 → j ≠ 17 → u.A 160 j = t.A 160 j) (F : yFe t u) : yMq u n B m' ∧ yKn t u := by
  obtain ⟨Y, -, -, ⟨h5, h6⟩, h18, ⟨h20, h21⟩, h19⟩ := M
  refine ⟨⟨yYt_fr Y (hj 3 (by decide) (by decide)) F, hm, h4, ⟨?_, ?_⟩, ?_, ⟨?_, ?_⟩, ?_⟩, fun j hj' => hj j (by omega) (by omega), F.1.mono (fun a h => Or.inl h)⟩
  · rw [hj 5 (by decide) (by decide)]; exact h5
  · rw [hj 6 (by decide) (by decide)]; exact h6
  · rw [hj 18 (by decide) (by decide)]; exact h18
  · rw [F.2]; exact h20
  · rw [F.2]; exact h21
  · rw [hj 19 (by decide) (by decide)]; exact h19
theorem v_137 (M : yMq t n B m) {lo hi : Nat} (hl : lo < 10000) (hh : hi < 10000) (h : ynum n B (ysk n B m) lo hi = true) : ∃ u, Ra (d + 2) 137 [.ref 160, .int (yI lo), .int (yI hi)] (yemb t) (.inl (some (.int (yI (ynv n B (ysk n B m)))))) (yemb u) ∧ (yMq u n B (yw ydg B (n - ysk n B m) (ysk n B m)) ∧ yKn t u) := by
  obtain ⟨u, hu, hr, hj, F⟩ := m_137 (d := d) M.1 hl hh M.2.1 M.2.2.1 M.2.2.2.1.1
  rw [h, if_pos rfl] at hu
  rw [h, if_pos rfl] at hr
  obtain ⟨h4, h17, h5, h6⟩ := hr
  have hs := ysk_le (n := n) (B := B) M.2.1
  have hw := yw_le (P := ydg) (B := B) (n - ysk n B m) (ysk n B m)
  obtain ⟨M1, K1⟩ := yMq_e M (show yw ydg B (n - ysk n B m) (ysk n B m) ≤ n by omega) h4 (fun j h1 h2 => by
    by_cases e5 : j = 5
    · rw [e5, h5]; exact M.2.2.2.1.1.symm
    · by_cases e6 : j = 6
      · rw [e6]; exact h6
      · exact hj j h1 e5 e6 h2) F
  exact ⟨u, hu, M1, K1⟩
theorem v_137f (M : yMq t n B m) {lo hi : Nat} (hl : lo < 10000) (hh : hi < 10000) (h : ynum n B (ysk n B m) lo hi = false) : ∃ u, Ra (d + 2) 137 [.ref 160, .int (yI lo), .int (yI hi)] (yemb t) (.inl (some (.int 0))) (yemb u) ∧ (yEr u (yne n B (ysk n B m)) (ysk n B m) ∧ yKn t u) := by
  obtain ⟨u, hu, hr, hj, F⟩ := m_137 (d := d) M.1 hl hh M.2.1 M.2.2.1 M.2.2.2.1.1
  rw [h, if_neg (by decide)] at hu
  rw [h, if_neg (by decide)] at hr
  refine ⟨u, hu, ⟨?_, hr.1, hr.2⟩, fun j hj' => hj j (by omega) (by omega) (by omega) (by omega), F.1.mono (fun a h => Or.inl h)⟩
  rw [hr.1]
  split <;> decide
/-- the head of a setup, with error: the rest does nothing but lay the draft -/
theorem l_150f {w : yT} {x1 x2 x3 : Int32} (h5 : ¬ w.A 160 5 = 0) : ∃ u, Gg (d + 22) 150 40 [some (.ref 160), some (.int x1), some (.int x2), some (.int x3)] [] (yemb w) 58 [some (.ref 160), some (.int x1), some (.int x2), some (.int x3)] [] (yemb u) ∧ (u.A 160 = w.A 160 ∧ yFr (fun a => a = 163) w u) := by
  have g128 := m_128 (d := d + 20) yA_163 yn_163 (x := x2) (y := x3) w
  have e : (w.sA 163 (ylay (w.A 163) x2 x3)).A 160 = w.A 160 := ysA_ne (by decide)
  have h5' : ¬ (w.sA 163 (ylay (w.A 163) x2 x3)).A 160 5 = 0 := by rw [e]; exact h5
  have g136 := fun (c : Int32) => m_136n (d := d + 19) h5' (c := c)
  refine ⟨w.sA 163 (ylay (w.A 163) x2 x3), fun Q => ?_, e, yFr_sA rfl⟩
  refine Iff.trans ?_ (l_150e (d := d) h5' Q)
  rw [s_150_40]
  simp only [s_150_0, s_150_1, s_150_2, s_150_3, s_150_4, s_150_5, s_150_6, s_150_7, s_150_8, s_150_9, s_150_10, s_150_11, s_150_12, s_150_13, s_150_14, s_150_15, s_150_16, s_150_17, s_150_18, s_150_19, s_150_20, s_150_21, s_150_22, s_150_23, s_150_24, s_150_25, s_150_26, s_150_27, s_150_28, s_150_29, s_150_30, s_150_31, s_150_32, s_150_33, s_150_34, s_150_35, s_150_36, s_150_37, s_150_38, s_150_39, s_150_41, s_150_42, s_150_43, s_150_44, s_150_45, s_150_46, s_150_47, s_150_49, s_150_50, s_150_51, s_150_52, s_150_53, s_150_54, s_150_55, s_150_56, s_150_57, s_150_58, s_150_59, s_150_60, s_150_61, s_150_62, s_150_63, s_150_64, s_150_65, s_150_66, s_150_67, s_150_68, s_150_69, s_150_70, s_150_71, s_150_72, s_150_73, s_150_74, s_150_75, s_150_76, s_150_77, s_150_78, s_150_79, s_150_80, yO_160, g128, g136, Gk_v, Gk_n, xcat_nil, xcat_i, xcat_r, xcat_l, xcat_d, Nat.zero_le, Nat.reduceAdd, Nat.reduceLeDiff, true_and, and_true, ykl_i, ykl_r, ykl_n, ykl_l]
theorem l_150h (hn : n ≤ 600) {x1 : Int32} (M : yMq t n B 0) : ∃ x2 x3 : Int32, yRm (fun u => Gg (d + 22) 150 21 [some (.ref 160), some (.int x1), none, none] [] (yemb t) 58 [some (.ref 160), some (.int x1), some (.int x2), some (.int x3)] [] (yemb u)) t n B (yrset n B) := by
  obtain ⟨u1, hu1, p1, j1, F1⟩ := m_135 (d := d + 17) M.1 (i := 11) (by decide) M.2.1 M.2.2.1 M.2.2.2.1.1
  have hu1' : ∀ Q', Cl (d + 21) 135 [.ref 160, .ref 1000111] (yemb t) Q' ↔ Q' _ (yemb u1) := hu1
  have hs := ysk_le (n := n) (B := B) (m := 0) (Nat.zero_le _)
  unfold yrset yrhd
  generalize ysk n B 0 = q at *
  cases h11 : yisw n B q 11
  · rw [h11] at hu1'
    rw [h11, if_neg (by decide)] at p1
    rw [if_neg (by decide)]
    obtain ⟨M1, K1⟩ := yMq_e M hs.2 p1 (fun j h _ => j1 j h) F1
    have g133 := m_133 (d := d + 21) (t := u1) (c := -2) (a := yI q) M1.2.2.2.1.1
    obtain ⟨w, hw⟩ : ∃ w, w = (u1.s1 160 5 (-2)).s1 160 6 (yI q) := ⟨_, rfl⟩
    rw [← hw] at g133
    have w5 : w.A 160 5 = -2 := by rw [hw, ys1_upd, yupd_ne (by decide), ys1_same]
    have w6 : w.A 160 6 = yI q := by rw [hw, ys1_same]
    have w0 : ¬ w.A 160 5 = 0 := by rw [w5]; decide
    have Kw : yKn u1 w := by rw [hw]; exact yKn_tr (yKn_s1 (by decide)) (yKn_s1 (by decide))
    have g137 := fun (lo hi : Int32) => m_137n (d := d + 19) w0 (lo := lo) (hi := hi)
    obtain ⟨u, hu, eu, Fu⟩ := l_150f (d := d) (w := w) (x1 := x1) (x2 := 0) (x3 := 0) w0
    have pp : u1.A 160 4 = yI q := p1
    refine ⟨0, 0, u, fun Q => ?_, ⟨by rw [eu]; exact w0, by rw [eu]; exact w5, by rw [eu]; exact w6⟩, yKn_tr (yKn_tr K1 Kw) (yKn_f3 Fu)⟩
    have hu' := hu Q
    rw [s_150_21]
    simp only [s_150_0, s_150_1, s_150_2, s_150_3, s_150_4, s_150_5, s_150_6, s_150_7, s_150_8, s_150_9, s_150_10, s_150_11, s_150_12, s_150_13, s_150_14, s_150_15, s_150_16, s_150_17, s_150_18, s_150_19, s_150_20, s_150_21, s_150_22, s_150_23, s_150_24, s_150_25, s_150_26, s_150_27, s_150_28, s_150_29, s_150_30, s_150_31, s_150_32, s_150_33, s_150_34, s_150_35, s_150_36, s_150_37, s_150_38, s_150_39, s_150_41, s_150_42, s_150_43, s_150_44, s_150_45, s_150_46, s_150_47, s_150_49, s_150_50, s_150_51, s_150_52, s_150_53, s_150_54, s_150_55, s_150_56, s_150_57, s_150_59, s_150_60, s_150_61, s_150_62, s_150_63, s_150_64, s_150_65, s_150_66, s_150_67, s_150_68, s_150_69, s_150_70, s_150_71, s_150_72, s_150_73, s_150_74, s_150_75, s_150_76, s_150_77, s_150_78, s_150_79, s_150_80, yO_160, hu1', ifbn, Bool.false_eq_true, if_false, pp, g133, g137, Gk_v, Gk_n, xcat_nil, xcat_i, xcat_r, xcat_l, xcat_d, Nat.zero_le, Nat.reduceAdd, Nat.reduceLeDiff, true_and, and_true, ykl_i, ykl_r, ykl_n, ykl_l]
    exact hu'
  · rw [h11] at hu1'
    rw [h11, if_pos rfl] at p1
    rw [if_pos rfl]
    have g1 := yisw_e (i := 11) (by decide) hs.2 h11
    have g2 := yte_le (n := n) (B := B) hs.2
    obtain ⟨M1, K1⟩ := yMq_e M (show q + ywl 11 ≤ n by omega) p1 (fun j h _ => j1 j h) F1
    generalize q + ywl 11 = m1 at *
    unfold yrh1
    cases h1 : ynum n B (ysk n B m1) 1 40
    · rw [if_neg (by decide)]
      obtain ⟨u2, hu2, E, K2⟩ := v_137f (d := d + 19) M1 (lo := 1) (hi := 40) (by decide) (by decide) h1
      have hu2' : ∀ Q', Cl (d + 21) 137 [.ref 160, .int 1, .int 40] (yemb u1) Q' ↔ Q' (.inl (some (.int 0))) (yemb u2) := hu2
      have g137 := fun (lo hi : Int32) => m_137n (d := d + 19) E.1 (lo := lo) (hi := hi)
      obtain ⟨u, hu, eu, Fu⟩ := l_150f (d := d) (w := u2) (x1 := x1) (x2 := 0) (x3 := 0) E.1
      refine ⟨0, 0, u, fun Q => ?_, ⟨by rw [eu]; exact E.1, by rw [eu]; exact E.2.1, by rw [eu]; exact E.2.2⟩, yKn_tr (yKn_tr K1 K2) (yKn_f3 Fu)⟩
      have hu' := hu Q
      rw [s_150_21]
      simp only [s_150_0, s_150_1, s_150_2, s_150_3, s_150_4, s_150_5, s_150_6, s_150_7, s_150_8, s_150_9, s_150_10, s_150_11, s_150_12, s_150_13, s_150_14, s_150_15, s_150_16, s_150_17, s_150_18, s_150_19, s_150_20, s_150_21, s_150_22, s_150_23, s_150_24, s_150_25, s_150_26, s_150_27, s_150_28, s_150_29, s_150_30, s_150_31, s_150_32, s_150_33, s_150_34, s_150_35, s_150_36, s_150_37, s_150_38, s_150_39, s_150_41, s_150_42, s_150_43, s_150_44, s_150_45, s_150_46, s_150_47, s_150_49, s_150_50, s_150_51, s_150_52, s_150_53, s_150_54, s_150_55, s_150_56, s_150_57, s_150_59, s_150_60, s_150_61, s_150_62, s_150_63, s_150_64, s_150_65, s_150_66, s_150_67, s_150_68, s_150_69, s_150_70, s_150_71, s_150_72, s_150_73, s_150_74, s_150_75, s_150_76, s_150_77, s_150_78, s_150_79, s_150_80, yO_160, hu1', ifbn, if_true, hu2', g137, Gk_v, Gk_n, xcat_nil, xcat_i, xcat_r, xcat_l, xcat_d, Nat.zero_le, Nat.reduceAdd, Nat.reduceLeDiff, true_and, and_true, ykl_i, ykl_r, ykl_n, ykl_l]
      exact hu'
    · rw [if_pos rfl]
      have hv := ynv_lt h1
      obtain ⟨u2, hu2, M2, K2⟩ := v_137 (d := d + 19) M1 (lo := 1) (hi := 40) (by decide) (by decide) h1
      have hu2' : ∀ Q', Cl (d + 21) 137 [.ref 160, .int 1, .int 40] (yemb u1) Q' ↔ Q' _ (yemb u2) := hu2
      have hq1 : ysk n B (yw ydg B (n - ysk n B m1) (ysk n B m1)) = ynq n B (ysk n B m1) := rfl
      rw [← hq1]
      generalize ynv n B (ysk n B m1) = a at *
      generalize yw ydg B (n - ysk n B m1) (ysk n B m1) = m2 at *
      have K12 := yKn_tr K1 K2
      cases h2 : ynum n B (ysk n B m2) 1 100
      · rw [if_neg (by decide)]
        obtain ⟨u3, hu3, E, K3⟩ := v_137f (d := d + 19) M2 (lo := 1) (hi := 100) (by decide) (by decide) h2
        have hu3' : ∀ Q', Cl (d + 21) 137 [.ref 160, .int 1, .int 100] (yemb u2) Q' ↔ Q' (.inl (some (.int 0))) (yemb u3) := hu3
        obtain ⟨u, hu, eu, Fu⟩ := l_150f (d := d) (w := u3) (x1 := x1) (x2 := yI a) (x3 := 0) E.1
        refine ⟨yI a, 0, u, fun Q => ?_, ⟨by rw [eu]; exact E.1, by rw [eu]; exact E.2.1, by rw [eu]; exact E.2.2⟩, yKn_tr (yKn_tr K12 K3) (yKn_f3 Fu)⟩
        have hu' := hu Q
        rw [s_150_21]
        simp only [s_150_0, s_150_1, s_150_2, s_150_3, s_150_4, s_150_5, s_150_6, s_150_7, s_150_8, s_150_9, s_150_10, s_150_11, s_150_12, s_150_13, s_150_14, s_150_15, s_150_16, s_150_17, s_150_18, s_150_19, s_150_20, s_150_21, s_150_22, s_150_23, s_150_24, s_150_25, s_150_26, s_150_27, s_150_28, s_150_29, s_150_30, s_150_31, s_150_32, s_150_33, s_150_34, s_150_35, s_150_36, s_150_37, s_150_38, s_150_39, s_150_41, s_150_42, s_150_43, s_150_44, s_150_45, s_150_46, s_150_47, s_150_49, s_150_50, s_150_51, s_150_52, s_150_53, s_150_54, s_150_55, s_150_56, s_150_57, s_150_59, s_150_60, s_150_61, s_150_62, s_150_63, s_150_64, s_150_65, s_150_66, s_150_67, s_150_68, s_150_69, s_150_70, s_150_71, s_150_72, s_150_73, s_150_74, s_150_75, s_150_76, s_150_77, s_150_78, s_150_79, s_150_80, yO_160, hu1', ifbn, if_true, hu2', hu3', Gk_v, Gk_n, xcat_nil, xcat_i, xcat_r, xcat_l, xcat_d, Nat.zero_le, Nat.reduceAdd, Nat.reduceLeDiff, true_and, and_true, ykl_i, ykl_r, ykl_n, ykl_l]
        exact hu'
      · rw [if_pos rfl]
        have hw := ynv_lt h2
        obtain ⟨u3, hu3, M3, K3⟩ := v_137 (d := d + 19) M2 (lo := 1) (hi := 100) (by decide) (by decide) h2
        have hu3' : ∀ Q', Cl (d + 21) 137 [.ref 160, .int 1, .int 100] (yemb u2) Q' ↔ Q' _ (yemb u3) := hu3
        have hq2 : ysk n B (yw ydg B (n - ysk n B m2) (ysk n B m2)) = ynq n B (ysk n B m2) := rfl
        rw [← hq2]
        generalize ynv n B (ysk n B m2) = b at *
        generalize yw ydg B (n - ysk n B m2) (ysk n B m2) = m3 at *
        have K13 := yKn_tr K12 K3
        have g128 := m_128 (d := d + 20) yA_163 yn_163 (x := yI a) (y := yI b) u3
        obtain ⟨w, hw'⟩ : ∃ w, w = u3.sA 163 (ylay (u3.A 163) (yI a) (yI b)) := ⟨_, rfl⟩
        rw [← hw'] at g128
        have Fw : yFr (fun a => a = 163) u3 w := by rw [hw']; exact yFr_sA rfl
        have ew : w.A 160 = u3.A 160 := Fw.A (by decide)
        have M4 : yMs w n B m3 (yD0 a b, (0, (false, false))) := by
          obtain ⟨Y, y2, y3, y4, y5, ⟨y7, y8⟩, y9⟩ := M3
          refine ⟨⟨Y.1, by rw [ew]; exact Y.2.1, fun i hi => by rw [Fw.A (by decide)]; exact Y.2.2 i hi⟩, y2, by rw [ew]; exact y3, by rw [ew]; exact y4, by rw [ew]; exact y5, ⟨yD0_ok hv.2.1 hv.2.2 hw.2.1 hw.2.2, ?_⟩, ⟨?_, ?_⟩, ?_⟩
          · rw [hw', ysA_same]
            exact yN_lay
          · rw [Fw.L (by decide)]; exact y7
          · rw [Fw.L (by decide), y8, yD0_kd, yodd_0]; rfl
          · rw [ew]; exact y9
        have K14 := yKn_tr K13 (yKn_f3 Fw)
        refine ⟨yI a, yI b, ?_⟩
        have start : ∀ u, Ra (d + 21) 136 [.ref 160, .int 59] (yemb w) (.inl none) (yemb u) → Gg (d + 22) 150 21 [some (.ref 160), some (.int x1), none, none] [] (yemb t) 48 [some (.ref 160), some (.int x1), some (.int (yI a)), some (.int (yI b))] [] (yemb u) := by
          intro u hu Q
          rw [s_150_21]
          simp only [s_150_0, s_150_1, s_150_2, s_150_3, s_150_4, s_150_5, s_150_6, s_150_7, s_150_8, s_150_9, s_150_10, s_150_11, s_150_12, s_150_13, s_150_14, s_150_15, s_150_16, s_150_17, s_150_18, s_150_19, s_150_20, s_150_21, s_150_22, s_150_23, s_150_24, s_150_25, s_150_26, s_150_27, s_150_28, s_150_29, s_150_30, s_150_31, s_150_32, s_150_33, s_150_34, s_150_35, s_150_36, s_150_37, s_150_38, s_150_39, s_150_40, s_150_41, s_150_42, s_150_43, s_150_44, s_150_45, s_150_46, s_150_47, s_150_49, s_150_50, s_150_51, s_150_52, s_150_53, s_150_54, s_150_55, s_150_56, s_150_57, s_150_58, s_150_59, s_150_60, s_150_61, s_150_62, s_150_63, s_150_64, s_150_65, s_150_66, s_150_67, s_150_68, s_150_69, s_150_70, s_150_71, s_150_72, s_150_73, s_150_74, s_150_75, s_150_76, s_150_77, s_150_78, s_150_79, s_150_80, yO_160, hu1', ifbn, if_true, hu2', hu3', g128, hu, Gk_v, Gk_n, xcat_nil, xcat_i, xcat_r, xcat_l, xcat_d, Nat.zero_le, Nat.reduceAdd, Nat.reduceLeDiff, true_and, and_true, ykl_i, ykl_r, ykl_n, ykl_l]
        unfold yrend
        cases h59 : yat n B (ysk n B m3) 59
        · rw [if_neg (by decide)]
          obtain ⟨u5, hu5, E, K5⟩ := w_136f (d := d + 19) M4 (c := 59) (by decide) h59
          exact ⟨u5, fun Q => (start u5 hu5 Q).trans (l_150e (d := d) E.1 Q), E, yKn_tr K14 K5⟩
        · rw [if_pos rfl]
          obtain ⟨u5, hu5, M5, K5⟩ := w_136 (d := d + 19) M4 (c := 59) (by decide) h59
          exact yRm_to (yKn_tr K14 K5) (fun u h Q => (start u5 hu5 Q).trans (h Q)) (l_150 (d := d) hn n (ysk n B m3 + 1) _ u5 (by omega) (yUk_0 hv.2.1 hv.2.2 hw.2.1 hw.2.2) M5)
end

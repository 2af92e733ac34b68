/-! ===== the model's setups: a statement ===== -/
theorem yrst_not {n : Nat} {B : Nat → Nat} {q i j : Nat} (hi : i < 14) (hj : j < 14) (hq : q ≤ n) (h : yisw n B q i = true) (hne : ywc i 0 ≠ ywc j 0) : yisw n B q j = false := by
  cases hx : yisw n B q j
  · rfl
  · have hi1 := (yw_ok i hi).1.1
    have hj1 := (yw_ok j hj).1.1
    have e1 := ((yisw_c hi hq).mp h).2.2 0 (by omega)
    have e2 := ((yisw_c hj hq).mp hx).2.2 0 (by omega)
    rw [e1] at e2
    exact absurd e2 hne
theorem yRm_end {d : Nat} {run1 run2 : yT → Prop} {t : yT} {n : Nat} {B : Nat → Nat} {r : yQs} (h : ∀ u u', run1 u → Ra (d + 2) 136 [.ref 160, .int 59] (yemb u) (.inl none) (yemb u') → run2 u') (H : yRm run1 t n B r) : yRm run2 t n B (yqthen r (yrend n B)) := by
  rcases r with ⟨c, a⟩ | ⟨q', U'⟩
  · obtain ⟨u, h1, E, K⟩ := H
    exact ⟨u, h u u h1 (m_136n (d := d) E.1), E, K⟩
  · obtain ⟨u, m', h1, M, hm, K⟩ := H
    subst hm
    show yRm run2 t n B (yrend n B (ysk n B m') U')
    unfold yrend
    cases hx : yat n B (ysk n B m') 59
    · rw [if_neg (by decide)]
      obtain ⟨u', hu', E, K'⟩ := w_136f (d := d) M (c := 59) (by decide) hx
      exact ⟨u', h u u' h1 hu', E, yKn_tr K K'⟩
    · rw [if_pos rfl]
      obtain ⟨u', hu', M', K'⟩ := w_136 (d := d) M (c := 59) (by decide) hx
      exact ⟨u', _, h u u' h1 hu', M', rfl, yKn_tr K K'⟩
section
variable {d : Nat} {t : yT} {n : Nat} {B : Nat → Nat} {m q : Nat} {U : yU}
/-- behind the word level -/
theorem l_148l (K : yUk U) (M : yMs t n B m U) (hm : m = q + ywl 7) {x1 : Int32} (hx1 : x1 = yI q) : yRm (fun u => Gg (d + 21) 148 32 [some (.ref 160), some (.int x1)] [] (yemb t) 65 [some (.ref 160), some (.int x1)] [] (yemb u)) t n B (if U.2.2.1 = true then .inl (-2, q) else yrlev n B (ysk n B (q + ywl 7)) U) := by
  have i2 : yix 2 1540 := yix_I (n := 2) (by omega) (by omega)
  have c2 : (2 : Int32).toNatClampNeg = 2 := rfl
  obtain ⟨y1, y2, y3, ⟨y4, y4'⟩, y5, y6, ⟨y7, y8⟩, y9⟩ := id M
  have y9' : t.A 160 19 = ysb2 U.2.2.1 U.2.2.2 := y9
  cases hlt : U.2.2.1
  · rw [hlt] at y9'
    rw [if_neg (by decide)]
    have g142 := m_142f (d := d + 19) (t := t) (b := 0) (s := x1) y9' ysn_0.1
    rw [ysn_0.2] at g142
    have M1 : yMs (t.s1 160 19 (ysb2 true U.2.2.2)) n B m (U.1, (U.2.1, (true, U.2.2.2))) := by
      refine ⟨yYt_4 y1 (by decide), y2, ?_, ⟨?_, ?_⟩, ?_, ?_, ⟨y7, y8⟩, ys1_same⟩
      · rw [ys1_upd, yupd_ne (by decide)]; exact y3
      · rw [ys1_upd, yupd_ne (by decide)]; exact y4
      · rw [ys1_upd, yupd_ne (by decide)]; exact y4'
      · rw [ys1_upd, yupd_ne (by decide)]; exact y5
      · rw [ys1_ne (by decide)]; exact y6
    have K1 : yKn t (t.s1 160 19 (ysb2 true U.2.2.2)) := yKn_s1 (by decide)
    rw [← hm]
    unfold yrlev
    cases h1 : ynum n B (ysk n B m) 0 255
    · rw [if_neg (by decide)]
      obtain ⟨u, hu, E, Ku⟩ := w_137f (d := d + 18) M1 (lo := 0) (hi := 255) (by decide) (by decide) h1
      have hu' : ∀ Q', Cl (d + 20) 137 [.ref 160, .int 0, .int 255] (yemb (t.s1 160 19 (ysb2 true U.2.2.2))) Q' ↔ Q' (.inl (some (.int 0))) (yemb u) := hu
      refine ⟨u.s1 163 2 0, fun Q => ?_, ⟨?_, ?_, ?_⟩, yKn_tr (yKn_tr K1 Ku) yKn_3⟩
      · simp only [s_148_0, s_148_1, s_148_2, s_148_2i, s_148_3, s_148_4, s_148_5, s_148_6, s_148_7, s_148_8, s_148_9, s_148_10, s_148_11, s_148_12, s_148_13, s_148_14, s_148_15, s_148_16, s_148_17, s_148_18, s_148_19, s_148_20, s_148_21, s_148_22, s_148_23, s_148_24, s_148_25, s_148_26, s_148_27, s_148_28, s_148_29, s_148_30, s_148_31, s_148_32, s_148_33, s_148_34, s_148_35, s_148_36, s_148_37, s_148_38, s_148_39, s_148_40, s_148_41, s_148_42, s_148_43, s_148_44, s_148_45, s_148_46, s_148_47, s_148_48, s_148_49, s_148_50, s_148_51, s_148_52, s_148_53, s_148_54, s_148_55, s_148_56, s_148_57, s_148_58, s_148_59, s_148_60, s_148_61, s_148_62, s_148_63, s_148_64, s_148_66, s_148_67, s_148_68, yO_160, yA_163, yn_163, g142, hu', i2, c2, Gk_v, Gk_n, xcat_nil, xcat_i, xcat_r, xcat_l, xcat_d, Nat.zero_le, Nat.reduceAdd, Nat.reduceLeDiff, true_and, and_true, ykl_i, ykl_r, ykl_n, ykl_l]
      · rw [ys1_ne (by decide)]; exact E.1
      · rw [ys1_ne (by decide)]; exact E.2.1
      · rw [ys1_ne (by decide)]; exact E.2.2
    · rw [if_pos rfl]
      have hv := ynv_lt h1
      obtain ⟨u, hu, Mu, -, Ku⟩ := w_137 (d := d + 18) M1 (lo := 0) (hi := 255) (by decide) (by decide) h1
      have hu' : ∀ Q', Cl (d + 20) 137 [.ref 160, .int 0, .int 255] (yemb (t.s1 160 19 (ysb2 true U.2.2.2))) Q' ↔ Q' _ (yemb u) := hu
      have M2 : yM ((u.s1 163 2 (yI (ynv n B (ysk n B m)))).A 163) (U.1.slv (yI (ynv n B (ysk n B m)))) := by
        rw [ys1_upd]
        exact ⟨yDok_slv K.1 (by omega), yN_slv Mu.2.2.2.2.2.1.v⟩
      have M3 := yMs_D Mu M2 (yFr_s1 rfl) rfl
      refine ⟨_, _, fun Q => ?_, M3, rfl, yKn_tr (yKn_tr K1 Ku) yKn_3⟩
      simp only [s_148_0, s_148_1, s_148_2, s_148_2i, s_148_3, s_148_4, s_148_5, s_148_6, s_148_7, s_148_8, s_148_9, s_148_10, s_148_11, s_148_12, s_148_13, s_148_14, s_148_15, s_148_16, s_148_17, s_148_18, s_148_19, s_148_20, s_148_21, s_148_22, s_148_23, s_148_24, s_148_25, s_148_26, s_148_27, s_148_28, s_148_29, s_148_30, s_148_31, s_148_32, s_148_33, s_148_34, s_148_35, s_148_36, s_148_37, s_148_38, s_148_39, s_148_40, s_148_41, s_148_42, s_148_43, s_148_44, s_148_45, s_148_46, s_148_47, s_148_48, s_148_49, s_148_50, s_148_51, s_148_52, s_148_53, s_148_54, s_148_55, s_148_56, s_148_57, s_148_58, s_148_59, s_148_60, s_148_61, s_148_62, s_148_63, s_148_64, s_148_66, s_148_67, s_148_68, yO_160, yA_163, yn_163, g142, hu', i2, c2, Gk_v, Gk_n, xcat_nil, xcat_i, xcat_r, xcat_l, xcat_d, Nat.zero_le, Nat.reduceAdd, Nat.reduceLeDiff, true_and, and_true, ykl_i, ykl_r, ykl_n, ykl_l]
  · rw [hlt] at y9'
    rw [if_pos rfl]
    have g142 := m_142t (d := d + 19) (t := t) (b := 0) (s := x1) y4 y9' ysn_0t
    generalize hX : ysb2 true U.2.2.2 ||| ((1 : Int32) <<< ((0 : Int32) &&& 31)) = X at *
    have h5 : ¬ (((t.s1 160 5 (-2)).s1 160 6 x1).s1 160 19 X).A 160 5 = 0 := by
      rw [ys1_upd, yupd_ne (by decide), ys1_upd, yupd_ne (by decide), ys1_same]
      decide
    have g137 := fun (lo hi : Int32) => m_137n (d := d + 18) h5 (lo := lo) (hi := hi)
    refine ⟨(((t.s1 160 5 (-2)).s1 160 6 x1).s1 160 19 X).s1 163 2 0, fun Q => ?_, ⟨?_, ?_, ?_⟩, yKn_tr (yKn_tr (yKn_tr (yKn_s1 (by decide)) (yKn_s1 (by decide))) (yKn_s1 (by decide))) yKn_3⟩
    · simp only [s_148_0, s_148_1, s_148_2, s_148_2i, s_148_3, s_148_4, s_148_5, s_148_6, s_148_7, s_148_8, s_148_9, s_148_10, s_148_11, s_148_12, s_148_13, s_148_14, s_148_15, s_148_16, s_148_17, s_148_18, s_148_19, s_148_20, s_148_21, s_148_22, s_148_23, s_148_24, s_148_25, s_148_26, s_148_27, s_148_28, s_148_29, s_148_30, s_148_31, s_148_32, s_148_33, s_148_34, s_148_35, s_148_36, s_148_37, s_148_38, s_148_39, s_148_40, s_148_41, s_148_42, s_148_43, s_148_44, s_148_45, s_148_46, s_148_47, s_148_48, s_148_49, s_148_50, s_148_51, s_148_52, s_148_53, s_148_54, s_148_55, s_148_56, s_148_57, s_148_58, s_148_59, s_148_60, s_148_61, s_148_62, s_148_63, s_148_64, s_148_66, s_148_67, s_148_68, yO_160, yA_163, yn_163, g142, g137, i2, c2, Gk_v, Gk_n, xcat_nil, xcat_i, xcat_r, xcat_l, xcat_d, Nat.zero_le, Nat.reduceAdd, Nat.reduceLeDiff, true_and, and_true, ykl_i, ykl_r, ykl_n, ykl_l]
    · rw [ys1_ne (by decide)]; exact h5
    · rw [ys1_ne (by decide), ys1_upd, yupd_ne (by decide), ys1_upd, yupd_ne (by decide), ys1_same]
    · rw [ys1_ne (by decide), ys1_upd, yupd_ne (by decide), ys1_same]; exact hx1
/-- the codes of a sum are the draft's curve -/
theorem yN_scv {S T : Nat → Int32} {D : yD} {l : List Int32} (N : yN S D) (h6 : D.f ≤ 6) (hl : 1 ≤ l.length) (J : yJs T l) (hs : ∀ j, j < 340 → j ≠ 7 → T j = if j = 6 then 1 else S j) : yN T (D.scv l.length (yg l)) := by
  have hS : ∀ j, j < 340 → j ≠ 6 → j ≠ 7 → T j = S j := fun j h1 h2 h3 => by rw [hs j h1 h3, if_neg h2]
  refine ⟨?_, ?_, ?_, ?_, ?_, ?_, ?_, J.2.1, ?_, ?_, ?_, ?_, ?_, ?_, ?_, ?_, ?_, ?_, ?_⟩
  · rw [hS 0 (by decide) (by decide) (by decide)]; exact N.n
  · rw [hS 1 (by decide) (by decide) (by decide)]; exact N.un
  · rw [hS 2 (by decide) (by decide) (by decide)]; exact N.lv
  · rw [hS 3 (by decide) (by decide) (by decide)]; exact N.f
  · rw [hS 4 (by decide) (by decide) (by decide)]; exact N.sh
  · rw [hS 5 (by decide) (by decide) (by decide)]; exact N.ac
  · rw [hs 6 (by decide) (by decide), if_pos rfl, yscv_cn, if_neg (by omega)]
  · intro p hp; rw [hS _ (by omega) (by omega) (by omega)]; exact N.kd p hp
  · intro p hp; rw [hS _ (by omega) (by omega) (by omega)]; exact N.pd p hp
  · intro p hp; rw [hS _ (by omega) (by omega) (by omega)]; exact N.fr p hp
  · intro p hp; rw [hS _ (by omega) (by omega) (by omega)]; exact N.tk p hp
  · intro p hp; rw [hS _ (by omega) (by omega) (by omega)]; exact N.du p hp
  · intro p hp; rw [hS _ (by omega) (by omega) (by omega)]; exact N.og p hp
  · intro p hp; rw [hS _ (by omega) (by omega) (by omega)]; exact N.fm p hp
  · intro p hp; rw [hS _ (by omega) (by omega) (by omega)]; exact N.bp p hp
  · intro g hg
    rw [yscv_f] at hg
    rw [hS _ (by omega) (by omega) (by omega)]
    exact N.fp g hg
  · intro g hg
    rw [yscv_f] at hg
    rw [hS _ (by omega) (by omega) (by omega)]
    exact N.fl g hg
  · exact J.2.2
/-- behind the word curve -/
theorem l_148c (K : yUk U) (M : yMs t n B m U) (hm : m = q + ywl 3) {x1 : Int32} (hx1 : x1 = yI q) : yRm (fun u => Gg (d + 21) 148 49 [some (.ref 160), some (.int x1)] [] (yemb t) 65 [some (.ref 160), some (.int x1)] [] (yemb u)) t n B (if U.2.2.2 = true then .inl (-2, q) else yrcur n B (ysk n B (q + ywl 3)) U) := by
  have i6 : yix 6 1540 := yix_I (n := 6) (by omega) (by omega)
  have c6 : (6 : Int32).toNatClampNeg = 6 := rfl
  obtain ⟨y1, y2, y3, ⟨y4, y4'⟩, y5, y6, ⟨y7, y8⟩, y9⟩ := id M
  have y9' : t.A 160 19 = ysb2 U.2.2.1 U.2.2.2 := y9
  cases hct : U.2.2.2
  · rw [hct] at y9'
    rw [if_neg (by decide)]
    have hcn := K.2.2 hct
    have g142 := m_142f (d := d + 19) (t := t) (b := 1) (s := x1) y9' ysn_1.1
    rw [ysn_1.2] at g142
    obtain ⟨w, hw⟩ : ∃ w, w = (t.s1 160 19 (ysb2 U.2.2.1 true)).s1 163 6 1 := ⟨_, rfl⟩
    have w163 : w.A 163 = upd (t.A 163) 6 1 := by rw [hw, ys1_upd, ys1_ne (by decide)]
    have w160 : w.A 160 = upd (t.A 160) 19 (ysb2 U.2.2.1 true) := by rw [hw, ys1_ne (by decide), ys1_upd]
    have wL : w.L 160 = t.L 160 := by rw [hw]; rfl
    have K1 : yKn t w := by rw [hw]; exact yKn_tr (yKn_s1 (by decide)) yKn_3
    have s7 : w.A 163 7 = 0 := by
      rw [w163, yupd_ne (by decide), y6.v.nc, hcn]
      rfl
    have Mr : yMr w n B m [] 0 := by
      refine ⟨⟨y1.1, ?_, fun i hi => ?_⟩, y2, ?_, ?_, ?_, yJs_0 s7, ?_⟩
      · rw [w160, yupd_ne (by decide)]; exact y1.2.1
      · rw [hw, ys1_ne (by decide), ys1_ne (by decide)]; exact y1.2.2 i hi
      · rw [w160, yupd_ne (by decide)]; exact y3
      · rw [w160, yupd_ne (by decide)]; exact y4
      · rw [w160, yupd_ne (by decide)]; exact y5
      · rw [w160, yupd_ne (by decide)]; exact y4'
    have H := m_141' (d := d + 1) Mr
    have hq := ysk_le (n := n) (B := B) y2
    rw [← hm]
    unfold yrcur
    have start : ∀ u, Ra (d + 20) 141 [.ref 160] (yemb w) (.inl none) (yemb u) → Gg (d + 21) 148 49 [some (.ref 160), some (.int x1)] [] (yemb t) 65 [some (.ref 160), some (.int x1)] [] (yemb u) := by
      intro u hu Q
      rw [hw] at hu
      simp only [s_148_0, s_148_1, s_148_2, s_148_2i, s_148_3, s_148_4, s_148_5, s_148_6, s_148_7, s_148_8, s_148_9, s_148_10, s_148_11, s_148_12, s_148_13, s_148_14, s_148_15, s_148_16, s_148_17, s_148_18, s_148_19, s_148_20, s_148_21, s_148_22, s_148_23, s_148_24, s_148_25, s_148_26, s_148_27, s_148_28, s_148_29, s_148_30, s_148_31, s_148_32, s_148_33, s_148_34, s_148_35, s_148_36, s_148_37, s_148_38, s_148_39, s_148_40, s_148_41, s_148_42, s_148_43, s_148_44, s_148_45, s_148_46, s_148_47, s_148_48, s_148_49, s_148_50, s_148_51, s_148_52, s_148_53, s_148_54, s_148_55, s_148_56, s_148_57, s_148_58, s_148_59, s_148_60, s_148_61, s_148_62, s_148_63, s_148_64, s_148_66, s_148_67, s_148_68, yO_160, yA_163, yn_163, g142, i6, c6, hu, Gk_v, Gk_n, xcat_nil, xcat_i, xcat_r, xcat_l, xcat_d, Nat.zero_le, Nat.reduceAdd, Nat.reduceLeDiff, true_and, and_true, ykl_i, ykl_r, ykl_n, ykl_l]
    rcases hr : ysum' n B (ysk n B m) with ⟨c, a⟩ | ⟨q2, l⟩
    · rw [hr] at H
      obtain ⟨u, hu, u0, u5, u6, Ku⟩ := H
      exact ⟨u, start u hu, ⟨u0, u5, u6⟩, yKn_tr K1 (yKn_j Ku)⟩
    · obtain ⟨s1, s2, s3⟩ := ysum_ev hq.2 hr
      have hl : 1 ≤ l.length := by
        cases l with
        | nil => exact absurd (show (0 : Nat) = 1 from s3) (by decide)
        | cons v e => exact Nat.succ_le_succ (Nat.zero_le _)
      rw [hr] at H
      obtain ⟨u, m', hu, ⟨z1, z2, z3, z4, z5, z6, z7⟩, hm', Ku⟩ := H
      have hN : yN (u.A 163) (U.1.scv l.length (yg l)) := yN_scv y6.v K.1.f6 hl z6 (fun j h1 h2 => by
        rw [Ku.2.1 j h1 h2, w163]
        rfl)
      refine ⟨u, m', start u hu, ⟨z1, z2, z3, ⟨z4, z7⟩, z5, ⟨yDok_scv K.1 (yCok_ev z6.1 s3), hN⟩, ⟨?_, ?_⟩, ?_⟩, hm', yKn_tr K1 (yKn_j Ku)⟩
      · rw [Ku.2.2.2, wL]; exact y7
      · rw [Ku.2.2.2, wL]; exact y8
      · rw [Ku.1 19 (by decide) (by decide) (by decide) (by decide) (by decide), w160, yupd_same]
  · rw [hct] at y9'
    rw [if_pos rfl]
    have g142 := m_142t (d := d + 19) (t := t) (b := 1) (s := x1) y4 y9' ysn_1t
    generalize hX : ysb2 U.2.2.1 true ||| ((1 : Int32) <<< ((1 : Int32) &&& 31)) = X at *
    have h5 : ¬ ((((t.s1 160 5 (-2)).s1 160 6 x1).s1 160 19 X).s1 163 6 1).A 160 5 = 0 := by
      rw [ys1_ne (by decide), ys1_upd, yupd_ne (by decide), ys1_upd, yupd_ne (by decide), ys1_same]
      decide
    have g141 := m_141n (d := d + 17) h5
    refine ⟨(((t.s1 160 5 (-2)).s1 160 6 x1).s1 160 19 X).s1 163 6 1, fun Q => ?_, ⟨h5, ?_, ?_⟩, yKn_tr (yKn_tr (yKn_tr (yKn_s1 (by decide)) (yKn_s1 (by decide))) (yKn_s1 (by decide))) yKn_3⟩
    · simp only [s_148_0, s_148_1, s_148_2, s_148_2i, s_148_3, s_148_4, s_148_5, s_148_6, s_148_7, s_148_8, s_148_9, s_148_10, s_148_11, s_148_12, s_148_13, s_148_14, s_148_15, s_148_16, s_148_17, s_148_18, s_148_19, s_148_20, s_148_21, s_148_22, s_148_23, s_148_24, s_148_25, s_148_26, s_148_27, s_148_28, s_148_29, s_148_30, s_148_31, s_148_32, s_148_33, s_148_34, s_148_35, s_148_36, s_148_37, s_148_38, s_148_39, s_148_40, s_148_41, s_148_42, s_148_43, s_148_44, s_148_45, s_148_46, s_148_47, s_148_48, s_148_49, s_148_50, s_148_51, s_148_52, s_148_53, s_148_54, s_148_55, s_148_56, s_148_57, s_148_58, s_148_59, s_148_60, s_148_61, s_148_62, s_148_63, s_148_64, s_148_66, s_148_67, s_148_68, yO_160, yA_163, yn_163, g142, g141, i6, c6, Gk_v, Gk_n, xcat_nil, xcat_i, xcat_r, xcat_l, xcat_d, Nat.zero_le, Nat.reduceAdd, Nat.reduceLeDiff, true_and, and_true, ykl_i, ykl_r, ykl_n, ykl_l]
    · rw [ys1_ne (by decide), ys1_upd, yupd_ne (by decide), ys1_upd, yupd_ne (by decide), ys1_same]
    · rw [ys1_ne (by decide), ys1_upd, yupd_ne (by decide), ys1_same]; exact hx1
theorem l_148 (K : yUk U) (M : yMs t n B m U) : yRm (fun u => Gg (d + 21) 148 0 [some (.ref 160), none] [] (yemb t) 65 [some (.ref 160), some (.int (yI (ysk n B m)))] [] (yemb u)) t n B (yrst n B (ysk n B m) U) := by
  have hs := ysk_le (n := n) (B := B) M.2.1
  have hid := ysk_idem (n := n) (B := B) M.2.1
  obtain ⟨u1, hu1, M1, K1⟩ := w_131 (d := d + 19) M
  generalize ysk n B m = q at *
  have p1 : u1.A 160 4 = yI q := M1.2.2.1
  have x5 := w_135 (d := d + 16) M1 (i := 5) (by decide)
  rw [hid] at x5
  obtain ⟨u2, hu2, M2, K2⟩ := x5
  have hu2' : ∀ Q', Cl (d + 20) 135 [.ref 160, .ref 1000105] (yemb u1) Q' ↔ Q' _ (yemb u2) := hu2
  have K12 := yKn_tr K1 K2
  unfold yrst
  cases h5 : yisw n B q 5
  · rw [h5] at hu2'
    rw [h5, if_neg (by decide)] at M2
    rw [if_neg (by decide)]
    have x0 := w_135 (d := d + 16) M2 (i := 0) (by decide)
    rw [hid] at x0
    obtain ⟨u3, hu3, M3, K3⟩ := x0
    have hu3' : ∀ Q', Cl (d + 20) 135 [.ref 160, .ref 1000100] (yemb u2) Q' ↔ Q' _ (yemb u3) := hu3
    have K13 := yKn_tr K12 K3
    cases h0 : yisw n B q 0
    · rw [h0] at hu3'
      rw [h0, if_neg (by decide)] at M3
      rw [if_neg (by decide)]
      have x6 := w_135 (d := d + 16) M3 (i := 6) (by decide)
      rw [hid] at x6
      obtain ⟨u4, hu4, M4, K4⟩ := x6
      have hu4' : ∀ Q', Cl (d + 20) 135 [.ref 160, .ref 1000106] (yemb u3) Q' ↔ Q' _ (yemb u4) := hu4
      have K14 := yKn_tr K13 K4
      cases h6 : yisw n B q 6
      · rw [h6] at hu4'
        rw [h6, if_neg (by decide)] at M4
        rw [if_neg (by decide)]
        have x7 := w_135 (d := d + 16) M4 (i := 7) (by decide)
        rw [hid] at x7
        obtain ⟨u5, hu5, M5, K5⟩ := x7
        have hu5' : ∀ Q', Cl (d + 20) 135 [.ref 160, .ref 1000107] (yemb u4) Q' ↔ Q' _ (yemb u5) := hu5
        have K15 := yKn_tr K14 K5
        cases h7 : yisw n B q 7
        · rw [h7] at hu5'
          rw [h7, if_neg (by decide)] at M5
          rw [if_neg (by decide)]
          have x3 := w_135 (d := d + 16) M5 (i := 3) (by decide)
          rw [hid] at x3
          obtain ⟨u6, hu6, M6, K6⟩ := x3
          have hu6' : ∀ Q', Cl (d + 20) 135 [.ref 160, .ref 1000103] (yemb u5) Q' ↔ Q' _ (yemb u6) := hu6
          have K16 := yKn_tr K15 K6
          cases h3 : yisw n B q 3
          · rw [h3] at hu6'
            rw [h3, if_neg (by decide)] at M6
            rw [if_neg (by decide)]
            obtain ⟨u7, hu7, E, K7, -⟩ := w_133 (d := d + 20) M6 (c := -2) (by decide) (a := q)
            refine ⟨u7, fun Q => ?_, E, yKn_tr K16 K7⟩
            simp only [s_148_0, s_148_1, s_148_2, s_148_2i, s_148_3, s_148_4, s_148_5, s_148_6, s_148_7, s_148_8, s_148_9, s_148_10, s_148_11, s_148_12, s_148_13, s_148_14, s_148_15, s_148_16, s_148_17, s_148_18, s_148_19, s_148_20, s_148_21, s_148_22, s_148_23, s_148_24, s_148_25, s_148_26, s_148_27, s_148_28, s_148_29, s_148_30, s_148_31, s_148_32, s_148_33, s_148_34, s_148_35, s_148_36, s_148_37, s_148_38, s_148_39, s_148_40, s_148_41, s_148_42, s_148_43, s_148_44, s_148_45, s_148_46, s_148_47, s_148_48, s_148_49, s_148_50, s_148_51, s_148_52, s_148_53, s_148_54, s_148_55, s_148_56, s_148_57, s_148_58, s_148_59, s_148_60, s_148_61, s_148_62, s_148_63, s_148_64, s_148_66, s_148_67, s_148_68, yO_160, hu1, p1, hu2', hu3', hu4', hu5', hu6', ifb, Bool.false_eq_true, if_false, hu7, Gk_v, Gk_n, xcat_nil, xcat_i, xcat_r, xcat_l, xcat_d, Nat.zero_le, Nat.reduceAdd, Nat.reduceLeDiff, true_and, and_true, ykl_i, ykl_r, ykl_n, ykl_l]
          · rw [h3] at hu6'
            rw [h3, if_pos rfl] at M6
            rw [if_pos rfl]
            refine yRm_to K16 (fun u h Q => ?_) (l_148c (d := d) K M6 rfl (x1 := yI q) rfl)
            have h' := h Q
            simp only [s_148_0, s_148_1, s_148_2, s_148_2i, s_148_3, s_148_4, s_148_5, s_148_6, s_148_7, s_148_8, s_148_9, s_148_10, s_148_11, s_148_12, s_148_13, s_148_14, s_148_15, s_148_16, s_148_17, s_148_18, s_148_19, s_148_20, s_148_21, s_148_22, s_148_23, s_148_24, s_148_25, s_148_26, s_148_27, s_148_28, s_148_29, s_148_30, s_148_31, s_148_32, s_148_33, s_148_34, s_148_35, s_148_36, s_148_37, s_148_38, s_148_39, s_148_40, s_148_41, s_148_42, s_148_43, s_148_44, s_148_45, s_148_46, s_148_47, s_148_48, s_148_50, s_148_51, s_148_52, s_148_53, s_148_54, s_148_55, s_148_56, s_148_57, s_148_58, s_148_59, s_148_60, s_148_61, s_148_62, s_148_63, s_148_64, s_148_66, s_148_67, s_148_68, yO_160, hu1, p1, hu2', hu3', hu4', hu5', hu6', ifb, Bool.false_eq_true, if_false, if_true, Gk_v, Gk_n, xcat_nil, xcat_i, xcat_r, xcat_l, xcat_d, Nat.zero_le, Nat.reduceAdd, Nat.reduceLeDiff, true_and, and_true, ykl_i, ykl_r, ykl_n, ykl_l]
            exact h'
        · rw [h7] at hu5'
          rw [h7, if_pos rfl] at M5
          rw [if_pos rfl]
          refine yRm_to K15 (fun u h Q => ?_) (l_148l (d := d) K M5 rfl (x1 := yI q) rfl)
          have h' := h Q
          simp only [s_148_0, s_148_1, s_148_2, s_148_2i, s_148_3, s_148_4, s_148_5, s_148_6, s_148_7, s_148_8, s_148_9, s_148_10, s_148_11, s_148_12, s_148_13, s_148_14, s_148_15, s_148_16, s_148_17, s_148_18, s_148_19, s_148_20, s_148_21, s_148_22, s_148_23, s_148_24, s_148_25, s_148_26, s_148_27, s_148_28, s_148_29, s_148_30, s_148_31, s_148_33, s_148_34, s_148_35, s_148_36, s_148_37, s_148_38, s_148_39, s_148_40, s_148_41, s_148_42, s_148_43, s_148_44, s_148_45, s_148_46, s_148_47, s_148_48, s_148_49, s_148_50, s_148_51, s_148_52, s_148_53, s_148_54, s_148_55, s_148_56, s_148_57, s_148_58, s_148_59, s_148_60, s_148_61, s_148_62, s_148_63, s_148_64, s_148_66, s_148_67, s_148_68, yO_160, hu1, p1, hu2', hu3', hu4', hu5', ifb, Bool.false_eq_true, if_false, if_true, Gk_v, Gk_n, xcat_nil, xcat_i, xcat_r, xcat_l, xcat_d, Nat.zero_le, Nat.reduceAdd, Nat.reduceLeDiff, true_and, and_true, ykl_i, ykl_r, ykl_n, ykl_l]
          exact h'
      · rw [h6] at hu4'
        rw [h6, if_pos rfl] at M4
        rw [if_pos rfl]
        refine yRm_to K14 (fun u h Q => ?_) (m_147 (d := d + 17) K M4)
        simp only [s_148_0, s_148_1, s_148_2, s_148_2i, s_148_3, s_148_4, s_148_5, s_148_6, s_148_7, s_148_8, s_148_9, s_148_10, s_148_11, s_148_12, s_148_13, s_148_14, s_148_15, s_148_16, s_148_17, s_148_18, s_148_19, s_148_20, s_148_21, s_148_22, s_148_23, s_148_24, s_148_25, s_148_26, s_148_27, s_148_28, s_148_29, s_148_30, s_148_31, s_148_32, s_148_33, s_148_34, s_148_35, s_148_36, s_148_37, s_148_38, s_148_39, s_148_40, s_148_41, s_148_42, s_148_43, s_148_44, s_148_45, s_148_46, s_148_47, s_148_48, s_148_49, s_148_50, s_148_51, s_148_52, s_148_53, s_148_54, s_148_55, s_148_56, s_148_57, s_148_58, s_148_59, s_148_60, s_148_61, s_148_62, s_148_63, s_148_64, s_148_66, s_148_67, s_148_68, yO_160, hu1, p1, hu2', hu3', hu4', ifb, Bool.false_eq_true, if_false, if_true, h, Gk_v, Gk_n, xcat_nil, xcat_i, xcat_r, xcat_l, xcat_d, Nat.zero_le, Nat.reduceAdd, Nat.reduceLeDiff, true_and, and_true, ykl_i, ykl_r, ykl_n, ykl_l]
    · rw [h0] at hu3'
      rw [h0, if_pos rfl] at M3
      rw [if_pos rfl]
      refine yRm_to K13 (fun u h Q => ?_) (m_145 (d := d + 15) K M3 rfl)
      simp only [s_148_0, s_148_1, s_148_2, s_148_2i, s_148_3, s_148_4, s_148_5, s_148_6, s_148_7, s_148_8, s_148_9, s_148_10, s_148_11, s_148_12, s_148_13, s_148_14, s_148_15, s_148_16, s_148_17, s_148_18, s_148_19, s_148_20, s_148_21, s_148_22, s_148_23, s_148_24, s_148_25, s_148_26, s_148_27, s_148_28, s_148_29, s_148_30, s_148_31, s_148_32, s_148_33, s_148_34, s_148_35, s_148_36, s_148_37, s_148_38, s_148_39, s_148_40, s_148_41, s_148_42, s_148_43, s_148_44, s_148_45, s_148_46, s_148_47, s_148_48, s_148_49, s_148_50, s_148_51, s_148_52, s_148_53, s_148_54, s_148_55, s_148_56, s_148_57, s_148_58, s_148_59, s_148_60, s_148_61, s_148_62, s_148_63, s_148_64, s_148_66, s_148_67, s_148_68, yO_160, hu1, p1, hu2', hu3', ifb, Bool.false_eq_true, if_false, if_true, h, Gk_v, Gk_n, xcat_nil, xcat_i, xcat_r, xcat_l, xcat_d, Nat.zero_le, Nat.reduceAdd, Nat.reduceLeDiff, true_and, and_true, ykl_i, ykl_r, ykl_n, ykl_l]
  · rw [h5] at hu2'
    rw [h5, if_pos rfl] at M2
    rw [if_pos rfl]
    refine yRm_to K12 (fun u h Q => ?_) (m_143 (d := d + 17) K M2)
    simp only [s_148_0, s_148_1, s_148_2, s_148_2i, s_148_3, s_148_4, s_148_5, s_148_6, s_148_7, s_148_8, s_148_9, s_148_10, s_148_11, s_148_12, s_148_13, s_148_14, s_148_15, s_148_16, s_148_17, s_148_18, s_148_19, s_148_20, s_148_21, s_148_22, s_148_23, s_148_24, s_148_25, s_148_26, s_148_27, s_148_28, s_148_29, s_148_30, s_148_31, s_148_32, s_148_33, s_148_34, s_148_35, s_148_36, s_148_37, s_148_38, s_148_39, s_148_40, s_148_41, s_148_42, s_148_43, s_148_44, s_148_45, s_148_46, s_148_47, s_148_48, s_148_49, s_148_50, s_148_51, s_148_52, s_148_53, s_148_54, s_148_55, s_148_56, s_148_57, s_148_58, s_148_59, s_148_60, s_148_61, s_148_62, s_148_63, s_148_64, s_148_66, s_148_67, s_148_68, yO_160, hu1, p1, hu2', ifb, if_true, h, Gk_v, Gk_n, xcat_nil, xcat_i, xcat_r, xcat_l, xcat_d, Nat.zero_le, Nat.reduceAdd, Nat.reduceLeDiff, true_and, and_true, ykl_i, ykl_r, ykl_n, ykl_l]
theorem m_148 (K : yUk U) (M : yMs t n B m U) : yRm (fun u => Ra (d + 21) 148 [.ref 160] (yemb t) (.inl none) (yemb u)) t n B (yrst' n B (ysk n B m) U) := by
  refine yRm_end (d := d + 18) (fun u u' h h' Q => ?_) (l_148 (d := d) K M)
  refine (h Q).trans ?_
  rw [s_148_65]
  simp only [s_148_0, s_148_1, s_148_2, s_148_2i, s_148_3, s_148_4, s_148_5, s_148_6, s_148_7, s_148_8, s_148_9, s_148_10, s_148_11, s_148_12, s_148_13, s_148_14, s_148_15, s_148_16, s_148_17, s_148_18, s_148_19, s_148_20, s_148_21, s_148_22, s_148_23, s_148_24, s_148_25, s_148_26, s_148_27, s_148_28, s_148_29, s_148_30, s_148_31, s_148_32, s_148_33, s_148_34, s_148_35, s_148_36, s_148_37, s_148_38, s_148_39, s_148_40, s_148_41, s_148_42, s_148_43, s_148_44, s_148_45, s_148_46, s_148_47, s_148_48, s_148_49, s_148_50, s_148_51, s_148_52, s_148_53, s_148_54, s_148_55, s_148_56, s_148_57, s_148_58, s_148_59, s_148_60, s_148_61, s_148_62, s_148_63, s_148_64, s_148_65, s_148_66, s_148_67, s_148_68, yO_160, h', Gk_v, Gk_n, xcat_nil, xcat_i, xcat_r, xcat_l, xcat_d, Nat.zero_le, Nat.reduceAdd, Nat.reduceLeDiff, true_and, and_true, ykl_i, ykl_r, ykl_n, ykl_l]
end

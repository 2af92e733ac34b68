/-! ===== the class's setups: a statement ===== -/
theorem yRc_ret {run1 run2 : xR → xS → Prop} {z0 s0 : Nat} {t0 t : yT} {n : Nat} {B : Nat → Nat} {r : yQs} (hK : yKc t0 t) (h : ∀ (x : Int32) s', (x = 0 ∨ x = 1) → run1 (.inl (some (.int x))) s' → run2 (.inl (some (.int x))) s') (H : yRc run1 z0 s0 t n B r) : yRc run2 z0 s0 t0 n B r := by
  rcases r with ⟨c, a⟩ | ⟨q', U'⟩
  · obtain ⟨u, h1, h2, h3, h4, h5⟩ := H
    exact ⟨u, h _ _ (Or.inl rfl) h1, h2, h3, yKc_x hK h4, h5⟩
  · obtain ⟨u, h1, h2, h3⟩ := H
    exact ⟨u, h _ _ (Or.inr rfl) h1, h2, yKc_tr hK h3⟩
theorem yKc_rfl {t : yT} : yKc t t := ⟨fun _ _ => rfl, yFg_rfl⟩
section
variable {d z0 s0 : Nat} {t u : yT} {n : Nat} {B : Nat → Nat} {q q' : Nat} {U : yU}
/-- a curve is read, behind its word -/
theorem m_23c (hz0 : z0 < 899000) (C : yCs z0 s0 t n B q U) (hct : U.2.2.2 = false) (hw : yisw n B q 3 = true) : yRc (fun r' s' => Ga (d + 15) 23 43 [some (.ref 31)] [] (yemb t) r' s') z0 s0 t n B (yrcur n B (ysk n B (q + ywl 3)) U) := by
  have F0 : yFr (fun a => a = 31) t (t.s1 31 6 1) := yFr_s1 rfl
  obtain ⟨T, W, ⟨h3, h4⟩, ⟨h5, -⟩, hI, hZ, hz, hs⟩ := C
  have I0 := hI hct
  have T0 : yTk (t.s1 31 6 1) n B q := yTk_ne T F0 (by decide) (by decide)
  obtain ⟨u1, hu1, T1, K1⟩ := yTk_adv (d := d + 13) T0
  rw [yisw_e (by decide) T.2.1 hw] at T1
  have I1 : yIt u1 [] := yIt_ne (yIt_ne I0 F0 (by decide) (by decide)) K1.2 (by decide) (by decide)
  have hq1 := yisw_go (i := 3) (by decide) T.2.1 hw
  generalize ysk n B (q + ywl 3) = q1 at *
  have H := m_68' (d := d) T1 I1
  have FK : yKc t u1 := yKc_tr (yKc_fr F0 (fun a h => by omega)) (yKc_p K1)
  have F1 := F0.trans K1.2 (P'' := fun a => a = 31 ∨ a = 1) (fun a h => h)
  rw [hct] at hz hs
  have hz' : t.z.1.1 ≤ z0 := hz
  have hs' : t.z.1.2 ≤ s0 := hs
  unfold yrcur
  rcases hr : ysum' n B q1 with ⟨c, a⟩ | ⟨q2, l⟩
  · rw [hr] at H
    obtain ⟨u2, hu2, x8, x9, K2⟩ := H
    have F2 := F1.trans K2.2 (P'' := fun a => a = 31 ∨ a = 1 ∨ a = 32 ∨ a = 33) (fun a h => by omega)
    refine ⟨u2, fun Q => ?_, x8, x9, yKc_x FK (yKx_e K2), yZ_fr hZ F2, ?_, ?_⟩
    · simp only [s_23_0, s_23_1, s_23_2, s_23_3, s_23_4, s_23_5, s_23_6, s_23_7, s_23_8, s_23_9, s_23_10, s_23_11, s_23_12, s_23_13, s_23_14, s_23_15, s_23_16, s_23_17, s_23_18, s_23_19, s_23_20, s_23_21, s_23_22, s_23_23, s_23_24, s_23_25, s_23_26, s_23_27, s_23_28, s_23_29, s_23_30, s_23_31, s_23_32, s_23_33, s_23_34, s_23_35, s_23_36, s_23_37, s_23_38, s_23_39, s_23_40, s_23_41, s_23_42, s_23_43, s_23_44, s_23_45, s_23_46, s_23_47, s_23_48, s_23_49, s_23_50, s_23_51, s_23_52, s_23_53, s_23_54, s_23_55, s_23_56, s_23_57, s_23_58, s_23_59, s_23_60, s_23_61, s_23_62, s_23_63, s_23_64, s_23_65, s_23_66, s_23_67, s_23_68, yO_31, yO_1, yO_19, yO_32, ybo_1, hu1, hu2, ne_eq, not_true_eq_false, if_false, ybo_0, Gk_v, Gk_n, xcat_nil, xcat_i, xcat_r, xcat_l, xcat_d, Nat.zero_le, Nat.reduceAdd, Nat.reduceLeDiff, true_and, and_true, ykl_i, ykl_r, ykl_n, ykl_l]
    · rw [F2.z]; omega
    · rw [F2.z]; omega
  · obtain ⟨s1, s2, s3⟩ := ysum_ev hq1.2 hr
    have h600 := T.1.1
    rw [hr] at H
    obtain ⟨u2, hu2, T2, I2, K2⟩ := H
    have F2 := F1.trans K2.2 (P'' := fun a => a = 31 ∨ a = 1 ∨ a = 32 ∨ a = 33) (fun a h => by omega)
    have Z2 : yZ u2 := yZ_fr hZ F2
    have zz : u2.z = t.z := F2.z
    have hz2 : u2.z.1.1 < 900000 := by rw [zz]; omega
    have g67 := m_67 (d := d + 13) Z2 hz2 I2 (by omega)
    have W2 : yW u2 19 U.1 := yW_fr W F2 (fun a g1 g2 g3 => by omega)
    have V3 : yV (u2.al l.length (yg l)) 19 U.1 := yV_g W2.v (yFg_al (P := fun _ => False) Z2) (fun _ _ _ h => h)
    have hK3 : (u2.al l.length (yg l)).K u2.z.1.1 = ycv l.length (yg l) := by rw [yal_K]; exact if_pos rfl
    have V4 := yV_scv V3 (r := u2.z.1.1) ⟨yla_no Z2.1, hz2⟩ hK3
    have F4 : yFg yPc u2 ((u2.al l.length (yg l)).sR 19 u2.z.1.1) := yFg_sR' (yFg_al Z2) (Or.inr ⟨by decide, by decide⟩)
    have hc10 : ¬ (1 : Int32) = 0 := by decide
    refine ⟨(u2.al l.length (yg l)).sR 19 u2.z.1.1, fun Q => ?_, ⟨T2, ⟨yDok_scv W.ok (yCok_ev (by omega) s3), V4⟩, ⟨?_, ?_⟩, ⟨?_, ?_⟩, fun h => (by cases h), yZ_al Z2, ?_, ?_⟩, yKc_tr (yKc_tr FK (yKc_s K2)) ⟨fun j _ => rfl, F4⟩⟩
    · simp only [s_23_0, s_23_1, s_23_2, s_23_3, s_23_4, s_23_5, s_23_6, s_23_7, s_23_8, s_23_9, s_23_10, s_23_11, s_23_12, s_23_13, s_23_14, s_23_15, s_23_16, s_23_17, s_23_18, s_23_19, s_23_20, s_23_21, s_23_22, s_23_23, s_23_24, s_23_25, s_23_26, s_23_27, s_23_28, s_23_29, s_23_30, s_23_31, s_23_32, s_23_33, s_23_34, s_23_35, s_23_36, s_23_37, s_23_38, s_23_39, s_23_40, s_23_41, s_23_42, s_23_43, s_23_44, s_23_45, s_23_46, s_23_47, s_23_48, s_23_49, s_23_50, s_23_51, s_23_52, s_23_53, s_23_54, s_23_55, s_23_56, s_23_57, s_23_58, s_23_59, s_23_60, s_23_61, s_23_62, s_23_63, s_23_64, s_23_65, s_23_66, s_23_67, s_23_68, yO_31, yO_1, yO_19, yO_32, ybo_1, hu1, hu2, hc10, ne_eq, not_false_eq_true, if_true, g67, Gk_v, Gk_n, xcat_nil, xcat_i, xcat_r, xcat_l, xcat_d, Nat.zero_le, Nat.reduceAdd, Nat.reduceLeDiff, true_and, and_true, ykl_i, ykl_r, ykl_n, ykl_l]
    · show u2.L 31 3 = _
      rw [K2.2.L (by decide), K1.2.L (by decide)]; exact h3
    · show u2.L 31 4 = _
      rw [K2.2.L (by decide), K1.2.L (by decide)]; exact h4
    · show u2.A 31 5 = _
      rw [K2.2.A (by decide), K1.2.A (by decide), ys1_upd, yupd_ne (by decide)]; exact h5
    · show u2.A 31 6 = _
      rw [K2.2.A (by decide), K1.2.A (by decide)]; exact ys1_same
    · show u2.z.1.1 + 1 ≤ z0 + 1
      rw [zz]; omega
    · show u2.z.1.2 + l.length ≤ s0 + 600
      rw [zz]; omega
theorem m_23 (hz0 : z0 < 899000) (K : yUk U) (C : yCs z0 s0 t n B q U) : yRc (fun r' s' => Ra (d + 15) 23 [.ref 31] (yemb t) r' s') z0 s0 t n B (yrst n B q U) := by
  have g5 : ∀ Q', Cl (d + 14) 85 [.ref 1, .ref 1000105] (yemb t) Q' ↔ Q' _ _ := m_85 (d := d + 10) C.1 (i := 5) (by decide)
  have g0 : ∀ Q', Cl (d + 14) 85 [.ref 1, .ref 1000100] (yemb t) Q' ↔ Q' _ _ := m_85 (d := d + 10) C.1 (i := 0) (by decide)
  have g6 : ∀ Q', Cl (d + 14) 85 [.ref 1, .ref 1000106] (yemb t) Q' ↔ Q' _ _ := m_85 (d := d + 10) C.1 (i := 6) (by decide)
  have g7 : ∀ Q', Cl (d + 14) 85 [.ref 1, .ref 1000107] (yemb t) Q' ↔ Q' _ _ := m_85 (d := d + 10) C.1 (i := 7) (by decide)
  have g3 : ∀ Q', Cl (d + 14) 85 [.ref 1, .ref 1000103] (yemb t) Q' ↔ Q' _ _ := m_85 (d := d + 10) C.1 (i := 3) (by decide)
  have a5 := C.2.2.2.1.1
  have a6 := C.2.2.2.1.2
  have g90 := m_90 (d := d + 13) (t := t) (c := -2)
  rw [C.1.2.2.1] at g90
  unfold yrst
  cases h5 : yisw n B q 5
  · rw [h5] at g5
    rw [if_neg (by decide)]
    cases h0 : yisw n B q 0
    · rw [h0] at g0
      rw [if_neg (by decide)]
      cases h6 : yisw n B q 6
      · rw [h6] at g6
        rw [if_neg (by decide)]
        cases h7 : yisw n B q 7
        · rw [h7] at g7
          rw [if_neg (by decide)]
          cases h3 : yisw n B q 3
          · rw [h3] at g3
            rw [if_neg (by decide)]
            refine ⟨_, fun Q => ?_, yCs_er C⟩
            show G (d + 15) 23 0 [some (.ref 31)] [] (yemb t) Q ↔ _
            simp only [s_23_0, s_23_1, s_23_2, s_23_3, s_23_4, s_23_5, s_23_6, s_23_7, s_23_8, s_23_9, s_23_10, s_23_11, s_23_12, s_23_13, s_23_14, s_23_15, s_23_16, s_23_17, s_23_18, s_23_19, s_23_20, s_23_21, s_23_22, s_23_23, s_23_24, s_23_25, s_23_26, s_23_27, s_23_28, s_23_29, s_23_30, s_23_31, s_23_32, s_23_33, s_23_34, s_23_35, s_23_36, s_23_37, s_23_38, s_23_39, s_23_40, s_23_41, s_23_42, s_23_43, s_23_44, s_23_45, s_23_46, s_23_47, s_23_48, s_23_49, s_23_50, s_23_51, s_23_52, s_23_53, s_23_54, s_23_55, s_23_56, s_23_57, s_23_58, s_23_59, s_23_60, s_23_61, s_23_62, s_23_63, s_23_64, s_23_65, s_23_66, s_23_67, s_23_68, yO_31, yO_1, g5, g0, g6, g7, g3, ifb, Bool.false_eq_true, if_false, g90, ybo_0, Gk_v, Gk_n, xcat_nil, xcat_i, xcat_r, xcat_l, xcat_d, Nat.zero_le, Nat.reduceAdd, Nat.reduceLeDiff, true_and, and_true, ykl_i, ykl_r, ykl_n, ykl_l]
          · rw [h3] at g3
            rw [if_pos rfl]
            cases hct : U.2.2.2
            · rw [hct] at a6
              rw [if_neg (by decide)]
              refine yRc_to yKc_rfl (fun r' s' h Q => ?_) (m_23c (d := d) hz0 C hct h3)
              have h' := h Q
              show G (d + 15) 23 0 [some (.ref 31)] [] (yemb t) Q ↔ _
              simp only [s_23_0, s_23_1, s_23_2, s_23_3, s_23_4, s_23_5, s_23_6, s_23_7, s_23_8, s_23_9, s_23_10, s_23_11, s_23_12, s_23_13, s_23_14, s_23_15, s_23_16, s_23_17, s_23_18, s_23_19, s_23_20, s_23_21, s_23_22, s_23_23, s_23_24, s_23_25, s_23_26, s_23_27, s_23_28, s_23_29, s_23_30, s_23_31, s_23_32, s_23_33, s_23_34, s_23_35, s_23_36, s_23_37, s_23_38, s_23_39, s_23_40, s_23_41, s_23_42, s_23_44, s_23_45, s_23_46, s_23_47, s_23_48, s_23_49, s_23_50, s_23_51, s_23_52, s_23_53, s_23_54, s_23_55, s_23_56, s_23_57, s_23_58, s_23_59, s_23_60, s_23_61, s_23_62, s_23_63, s_23_64, s_23_65, s_23_66, s_23_67, s_23_68, yO_31, yO_1, g5, g0, g6, g7, g3, ifb, Bool.false_eq_true, if_false, if_true, a6, ifbn, Gk_v, Gk_n, xcat_nil, xcat_i, xcat_r, xcat_l, xcat_d, Nat.zero_le, Nat.reduceAdd, Nat.reduceLeDiff, true_and, and_true, ykl_i, ykl_r, ykl_n, ykl_l]
              exact h'
            · rw [hct] at a6
              rw [if_pos rfl]
              refine ⟨_, fun Q => ?_, yCs_er C⟩
              show G (d + 15) 23 0 [some (.ref 31)] [] (yemb t) Q ↔ _
              simp only [s_23_0, s_23_1, s_23_2, s_23_3, s_23_4, s_23_5, s_23_6, s_23_7, s_23_8, s_23_9, s_23_10, s_23_11, s_23_12, s_23_13, s_23_14, s_23_15, s_23_16, s_23_17, s_23_18, s_23_19, s_23_20, s_23_21, s_23_22, s_23_23, s_23_24, s_23_25, s_23_26, s_23_27, s_23_28, s_23_29, s_23_30, s_23_31, s_23_32, s_23_33, s_23_34, s_23_35, s_23_36, s_23_37, s_23_38, s_23_39, s_23_40, s_23_41, s_23_42, s_23_43, s_23_44, s_23_45, s_23_46, s_23_47, s_23_48, s_23_49, s_23_50, s_23_51, s_23_52, s_23_53, s_23_54, s_23_55, s_23_56, s_23_57, s_23_58, s_23_59, s_23_60, s_23_61, s_23_62, s_23_63, s_23_64, s_23_65, s_23_66, s_23_67, s_23_68, yO_31, yO_1, g5, g0, g6, g7, g3, ifb, Bool.false_eq_true, if_false, if_true, a6, ifbn, g90, ybo_0, Gk_v, Gk_n, xcat_nil, xcat_i, xcat_r, xcat_l, xcat_d, Nat.zero_le, Nat.reduceAdd, Nat.reduceLeDiff, true_and, and_true, ykl_i, ykl_r, ykl_n, ykl_l]
        · rw [h7] at g7
          rw [if_pos rfl]
          cases hlt : U.2.2.1
          · rw [hlt] at a5
            rw [if_neg (by decide)]
            refine yRc_ret yKc_rfl (fun x s' hx h Q => ?_) (m_28 (d := d + 11) K C h7)
            show G (d + 15) 23 0 [some (.ref 31)] [] (yemb t) Q ↔ _
            rcases hx with rfl | rfl <;> simp only [s_23_0, s_23_1, s_23_2, s_23_3, s_23_4, s_23_5, s_23_6, s_23_7, s_23_8, s_23_9, s_23_10, s_23_11, s_23_12, s_23_13, s_23_14, s_23_15, s_23_16, s_23_17, s_23_18, s_23_19, s_23_20, s_23_21, s_23_22, s_23_23, s_23_24, s_23_25, s_23_26, s_23_27, s_23_28, s_23_29, s_23_30, s_23_31, s_23_32, s_23_33, s_23_34, s_23_35, s_23_36, s_23_37, s_23_38, s_23_39, s_23_40, s_23_41, s_23_42, s_23_43, s_23_44, s_23_45, s_23_46, s_23_47, s_23_48, s_23_49, s_23_50, s_23_51, s_23_52, s_23_53, s_23_54, s_23_55, s_23_56, s_23_57, s_23_58, s_23_59, s_23_60, s_23_61, s_23_62, s_23_63, s_23_64, s_23_65, s_23_66, s_23_67, s_23_68, yO_31, yO_1, g5, g0, g6, g7, ifb, ifbn, Bool.false_eq_true, if_false, if_true, a5, h, ybo_0, ybo_1, Gk_v, Gk_n, xcat_nil, xcat_i, xcat_r, xcat_l, xcat_d, Nat.zero_le, Nat.reduceAdd, Nat.reduceLeDiff, true_and, and_true, ykl_i, ykl_r, ykl_n, ykl_l]
          · rw [hlt] at a5
            rw [if_pos rfl]
            have h3 : yisw n B q 3 = false := by
              cases hx : yisw n B q 3
              · rfl
              · have e1 := ((yisw_c (i := 3) (by decide) C.1.2.1).mp hx).2.2 0 (by decide)
                have e2 := ((yisw_c (i := 7) (by decide) C.1.2.1).mp h7).2.2 0 (by decide)
                rw [e1] at e2
                exact absurd e2 (by decide)
            rw [h3] at g3
            refine ⟨_, fun Q => ?_, yCs_er C⟩
            show G (d + 15) 23 0 [some (.ref 31)] [] (yemb t) Q ↔ _
            simp only [s_23_0, s_23_1, s_23_2, s_23_3, s_23_4, s_23_5, s_23_6, s_23_7, s_23_8, s_23_9, s_23_10, s_23_11, s_23_12, s_23_13, s_23_14, s_23_15, s_23_16, s_23_17, s_23_18, s_23_19, s_23_20, s_23_21, s_23_22, s_23_23, s_23_24, s_23_25, s_23_26, s_23_27, s_23_28, s_23_29, s_23_30, s_23_31, s_23_32, s_23_33, s_23_34, s_23_35, s_23_36, s_23_37, s_23_38, s_23_39, s_23_40, s_23_41, s_23_42, s_23_43, s_23_44, s_23_45, s_23_46, s_23_47, s_23_48, s_23_49, s_23_50, s_23_51, s_23_52, s_23_53, s_23_54, s_23_55, s_23_56, s_23_57, s_23_58, s_23_59, s_23_60, s_23_61, s_23_62, s_23_63, s_23_64, s_23_65, s_23_66, s_23_67, s_23_68, yO_31, yO_1, g5, g0, g6, g7, g3, ifb, ifbn, Bool.false_eq_true, if_false, if_true, a5, g90, ybo_0, Gk_v, Gk_n, xcat_nil, xcat_i, xcat_r, xcat_l, xcat_d, Nat.zero_le, Nat.reduceAdd, Nat.reduceLeDiff, true_and, and_true, ykl_i, ykl_r, ykl_n, ykl_l]
      · rw [h6] at g6
        rw [if_pos rfl]
        refine yRc_ret yKc_rfl (fun x s' hx h Q => ?_) (m_27 (d := d + 11) K C h6)
        show G (d + 15) 23 0 [some (.ref 31)] [] (yemb t) Q ↔ _
        rcases hx with rfl | rfl <;> simp only [s_23_0, s_23_1, s_23_2, s_23_3, s_23_4, s_23_5, s_23_6, s_23_7, s_23_8, s_23_9, s_23_10, s_23_11, s_23_12, s_23_13, s_23_14, s_23_15, s_23_16, s_23_17, s_23_18, s_23_19, s_23_20, s_23_21, s_23_22, s_23_23, s_23_24, s_23_25, s_23_26, s_23_27, s_23_28, s_23_29, s_23_30, s_23_31, s_23_32, s_23_33, s_23_34, s_23_35, s_23_36, s_23_37, s_23_38, s_23_39, s_23_40, s_23_41, s_23_42, s_23_43, s_23_44, s_23_45, s_23_46, s_23_47, s_23_48, s_23_49, s_23_50, s_23_51, s_23_52, s_23_53, s_23_54, s_23_55, s_23_56, s_23_57, s_23_58, s_23_59, s_23_60, s_23_61, s_23_62, s_23_63, s_23_64, s_23_65, s_23_66, s_23_67, s_23_68, yO_31, yO_1, g5, g0, g6, ifb, Bool.false_eq_true, if_false, if_true, h, ybo_0, ybo_1, Gk_v, Gk_n, xcat_nil, xcat_i, xcat_r, xcat_l, xcat_d, Nat.zero_le, Nat.reduceAdd, Nat.reduceLeDiff, true_and, and_true, ykl_i, ykl_r, ykl_n, ykl_l]
    · rw [h0] at g0
      rw [if_pos rfl]
      refine yRc_ret yKc_rfl (fun x s' hx h Q => ?_) (m_25 (d := d + 7) K C h0)
      show G (d + 15) 23 0 [some (.ref 31)] [] (yemb t) Q ↔ _
      rcases hx with rfl | rfl <;> simp only [s_23_0, s_23_1, s_23_2, s_23_3, s_23_4, s_23_5, s_23_6, s_23_7, s_23_8, s_23_9, s_23_10, s_23_11, s_23_12, s_23_13, s_23_14, s_23_15, s_23_16, s_23_17, s_23_18, s_23_19, s_23_20, s_23_21, s_23_22, s_23_23, s_23_24, s_23_25, s_23_26, s_23_27, s_23_28, s_23_29, s_23_30, s_23_31, s_23_32, s_23_33, s_23_34, s_23_35, s_23_36, s_23_37, s_23_38, s_23_39, s_23_40, s_23_41, s_23_42, s_23_43, s_23_44, s_23_45, s_23_46, s_23_47, s_23_48, s_23_49, s_23_50, s_23_51, s_23_52, s_23_53, s_23_54, s_23_55, s_23_56, s_23_57, s_23_58, s_23_59, s_23_60, s_23_61, s_23_62, s_23_63, s_23_64, s_23_65, s_23_66, s_23_67, s_23_68, yO_31, yO_1, g5, g0, ifb, Bool.false_eq_true, if_false, if_true, h, ybo_0, ybo_1, Gk_v, Gk_n, xcat_nil, xcat_i, xcat_r, xcat_l, xcat_d, Nat.zero_le, Nat.reduceAdd, Nat.reduceLeDiff, true_and, and_true, ykl_i, ykl_r, ykl_n, ykl_l]
  · rw [h5] at g5
    rw [if_pos rfl]
    refine yRc_ret yKc_rfl (fun x s' hx h Q => ?_) (m_24 (d := d + 11) K C h5)
    show G (d + 15) 23 0 [some (.ref 31)] [] (yemb t) Q ↔ _
    rcases hx with rfl | rfl <;> simp only [s_23_0, s_23_1, s_23_2, s_23_3, s_23_4, s_23_5, s_23_6, s_23_7, s_23_8, s_23_9, s_23_10, s_23_11, s_23_12, s_23_13, s_23_14, s_23_15, s_23_16, s_23_17, s_23_18, s_23_19, s_23_20, s_23_21, s_23_22, s_23_23, s_23_24, s_23_25, s_23_26, s_23_27, s_23_28, s_23_29, s_23_30, s_23_31, s_23_32, s_23_33, s_23_34, s_23_35, s_23_36, s_23_37, s_23_38, s_23_39, s_23_40, s_23_41, s_23_42, s_23_43, s_23_44, s_23_45, s_23_46, s_23_47, s_23_48, s_23_49, s_23_50, s_23_51, s_23_52, s_23_53, s_23_54, s_23_55, s_23_56, s_23_57, s_23_58, s_23_59, s_23_60, s_23_61, s_23_62, s_23_63, s_23_64, s_23_65, s_23_66, s_23_67, s_23_68, yO_31, yO_1, g5, ifb, if_true, h, ybo_0, ybo_1, Gk_v, Gk_n, xcat_nil, xcat_i, xcat_r, xcat_l, xcat_d, Nat.zero_le, Nat.reduceAdd, Nat.reduceLeDiff, true_and, and_true, ykl_i, ykl_r, ykl_n, ykl_l]
end

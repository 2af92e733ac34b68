/-! ===== the class's scripts: commands and blocks ===== -/
/-- blocks, commands that a call reads as the pure reader says -/
abbrev yBz (D j : Nat) (dep : Nat) (n : Nat) (B : Nat → Nat) (blk : Nat → Nat → yTb → yPg) : Prop := ∀ (t : yT) (q c : Nat) (T : yTb), yTk t n B q → t.A 34 6 = yI c → c ≤ 60 → yRg (fun r' s' => Ra D j [.ref 34, .int (yI dep)] (yemb t) r' s') t n B c (blk q c T)
section
variable {d : Nat} {t : yT} {n : Nat} {B : Nat → Nat} {q c : Nat} {blk : Nat → Nat → yTb → yPg} {al : Bool} {dep : Nat} {W : yTb → Nat → Nat → Prop}
theorem m_14 (hal : al = decide (dep < 3)) (hd3 : dep ≤ 3) (HB : al = true → yBz (d + 5) 13 (dep + 1) n B blk) (hb : al = true → ygood n W blk) : yBz (d + 6) 14 dep n B (ycmd n B blk al) := by
  intro t q c T Tq hc6 hc60
  have h600 := Tq.1.1
  have hqn := Tq.2.1
  have g15 := m_15 (d := d) Tq
  unfold ycmd
  by_cases h6 : ykh n B q = 6
  · rw [if_pos h6]
    rw [h6] at g15
    have e1 : ykI 6 = -1 := rfl
    rw [e1] at g15
    have g90 := m_90 (d := d + 4) (t := t) (c := -2)
    rw [Tq.2.2.1] at g90
    refine ⟨_, fun Q => ?_, yrf_8, yrf_9, yKwe_rf⟩
    show G (d + 6) 14 0 [some (.ref 34), some (.int (yI dep)), none, none] [] (yemb t) Q ↔ _
    simp only [s_14_0, s_14_1, s_14_2, s_14_3, s_14_4, s_14_5, s_14_6, s_14_7, s_14_8, s_14_9, s_14_10, s_14_11, s_14_12, s_14_13, s_14_14, s_14_15, s_14_16, s_14_17, s_14_18, s_14_19, s_14_20, s_14_21, s_14_22, s_14_23, s_14_24, s_14_25, s_14_26, s_14_27, s_14_28, s_14_29, s_14_30, s_14_31, s_14_32, s_14_33, s_14_34, s_14_35, s_14_36, s_14_37, s_14_38, s_14_38i, s_14_39, s_14_40, s_14_41, s_14_42, s_14_43, s_14_44, s_14_45, s_14_46, s_14_47, s_14_48, s_14_49, s_14_50, s_14_51, s_14_52, s_14_53, s_14_54, s_14_55, s_14_56, s_14_57, s_14_58, s_14_59, s_14_60, s_14_61, s_14_62, s_14_63, s_14_64, s_14_65, s_14_66, s_14_67, s_14_68, s_14_69, s_14_70, s_14_71, s_14_72, s_14_73, s_14_74, s_14_75, s_14_76, s_14_77, s_14_78, s_14_79, s_14_80, s_14_81, s_14_82, yO_34, yO_1, g15, ne_eq, not_true_eq_false, if_false, g90, ybo_0, Gk_v, Gk_n, xcat_nil, xcat_i, xcat_r, xcat_l, xcat_d, Nat.zero_le, Nat.reduceAdd, Nat.reduceLeDiff, true_and, and_true, ykl_i, ykl_r, ykl_n, ykl_l]
  · rw [if_neg h6]
    obtain ⟨k6, hw, hisw⟩ := ykh_w h6
    have e1 : ykI (ykh n B q) = yI (ykh n B q) := by rw [ykI, if_neg h6]
    rw [e1] at g15
    have hg := yisw_go hw hqn hisw
    have he := yisw_e hw hqn hisw
    obtain ⟨u1, hu1, T1, K1⟩ := yTk_adv (d := d + 4) Tq
    rw [he] at T1
    generalize ysk n B (q + ywl (ykw (ykh n B q))) = q0 at *
    generalize ykh n B q = k at *
    have cm1 : ¬ yI k = -1 := fun h => by
      have := yI_nneg (n := k) (by omega)
      rw [h] at this
      exact this (by decide)
    by_cases h60 : 60 ≤ c
    · rw [if_pos h60]
      have c1 : ¬ yI c < 60 := fun h => absurd ((yI_lt (m := 60) (by omega) (by decide)).mp h) (by omega)
      have g90 := m_90 (d := d + 4) (t := t) (c := -5)
      rw [Tq.2.2.1] at g90
      refine ⟨_, fun Q => ?_, yrf_8, yrf_9, yKwe_rf⟩
      show G (d + 6) 14 0 [some (.ref 34), some (.int (yI dep)), none, none] [] (yemb t) Q ↔ _
      simp only [s_14_0, s_14_1, s_14_2, s_14_3, s_14_4, s_14_5, s_14_6, s_14_7, s_14_8, s_14_9, s_14_10, s_14_11, s_14_12, s_14_13, s_14_14, s_14_15, s_14_16, s_14_17, s_14_18, s_14_19, s_14_20, s_14_21, s_14_22, s_14_23, s_14_24, s_14_25, s_14_26, s_14_27, s_14_28, s_14_29, s_14_30, s_14_31, s_14_32, s_14_33, s_14_34, s_14_35, s_14_36, s_14_37, s_14_38, s_14_38i, s_14_39, s_14_40, s_14_41, s_14_42, s_14_43, s_14_44, s_14_45, s_14_46, s_14_47, s_14_48, s_14_49, s_14_50, s_14_51, s_14_52, s_14_53, s_14_54, s_14_55, s_14_56, s_14_57, s_14_58, s_14_59, s_14_60, s_14_61, s_14_62, s_14_63, s_14_64, s_14_65, s_14_66, s_14_67, s_14_68, s_14_69, s_14_70, s_14_71, s_14_72, s_14_73, s_14_74, s_14_75, s_14_76, s_14_77, s_14_78, s_14_79, s_14_80, s_14_81, s_14_82, yO_34, yO_1, g15, cm1, ne_eq, not_false_eq_true, if_true, hc6, c1, if_false, g90, ybo_0, Gk_v, Gk_n, xcat_nil, xcat_i, xcat_r, xcat_l, xcat_d, Nat.zero_le, Nat.reduceAdd, Nat.reduceLeDiff, true_and, and_true, ykl_i, ykl_r, ykl_n, ykl_l]
    · rw [if_neg h60]
      have c1 : yI c < 60 := (yI_lt (m := 60) (by omega) (by decide)).mpr (by omega)
      by_cases hal2 : k = 5 ∧ al = false
      · rw [if_pos hal2]
        have hd : ¬ yI dep < 3 := fun h => by
          have h' := (yI_lt (m := 3) (by omega) (by decide)).mp h
          rw [hal2.2, decide_eq_true h'] at hal
          cases hal
        have c5 : yI k = 5 := by rw [hal2.1]; rfl
        have cm5 : ¬ (5 : Int32) = -1 := by decide
        have g90 := m_90 (d := d + 4) (t := t) (c := -6)
        rw [Tq.2.2.1] at g90
        refine ⟨_, fun Q => ?_, yrf_8, yrf_9, yKwe_rf⟩
        show G (d + 6) 14 0 [some (.ref 34), some (.int (yI dep)), none, none] [] (yemb t) Q ↔ _
        simp only [s_14_0, s_14_1, s_14_2, s_14_3, s_14_4, s_14_5, s_14_6, s_14_7, s_14_8, s_14_9, s_14_10, s_14_11, s_14_12, s_14_13, s_14_14, s_14_15, s_14_16, s_14_17, s_14_18, s_14_19, s_14_20, s_14_21, s_14_22, s_14_23, s_14_24, s_14_25, s_14_26, s_14_27, s_14_28, s_14_29, s_14_30, s_14_31, s_14_32, s_14_33, s_14_34, s_14_35, s_14_36, s_14_37, s_14_38, s_14_38i, s_14_39, s_14_40, s_14_41, s_14_42, s_14_43, s_14_44, s_14_45, s_14_46, s_14_47, s_14_48, s_14_49, s_14_50, s_14_51, s_14_52, s_14_53, s_14_54, s_14_55, s_14_56, s_14_57, s_14_58, s_14_59, s_14_60, s_14_61, s_14_62, s_14_63, s_14_64, s_14_65, s_14_66, s_14_67, s_14_68, s_14_69, s_14_70, s_14_71, s_14_72, s_14_73, s_14_74, s_14_75, s_14_76, s_14_77, s_14_78, s_14_79, s_14_80, s_14_81, s_14_82, yO_34, yO_1, g15, cm1, cm5, ne_eq, not_false_eq_true, if_true, hc6, c1, c5, not_true_eq_false, if_false, hd, g90, ybo_0, Gk_v, Gk_n, xcat_nil, xcat_i, xcat_r, xcat_l, xcat_d, Nat.zero_le, Nat.reduceAdd, Nat.reduceLeDiff, true_and, and_true, ykl_i, ykl_r, ykl_n, ykl_l]
      · rw [if_neg hal2]
        -- up to the numbers
        have i35 : yix (yI c) 60 := yix_I (by omega) (by omega)
        have cc : (yI c).toNatClampNeg = c := yI_clamp (by omega)
        have e7 : yI c + 1 = yI (c + 1) := yI_add
        obtain ⟨w, hwd⟩ : ∃ w, w = (u1.s1 34 6 (yI (c + 1))).s1 35 c (yI k) := ⟨_, rfl⟩
        have Fw : yFr (fun a => a = 34 ∨ a = 35) u1 w := by rw [hwd]; exact (yFr_s1 (P := fun a => a = 34) rfl).trans (yFr_s1 (P := fun a => a = 35) rfl) (fun a h => h)
        have w35 : w.A 35 = upd (u1.A 35) c (yI k) := by rw [hwd, ys1_upd, ys1_ne (by decide)]
        have w34 : w.A 34 = upd (u1.A 34) 6 (yI (c + 1)) := by rw [hwd, ys1_ne (by decide), ys1_upd]
        have Tw : yTk w n B q0 := yTk_35 T1 Fw (fun a h => by omega)
        have K1w : yKw t u1 c := yKw_p K1
        have Kw : yKw u1 w c := ⟨fun j _ => by rw [Fw.A (by decide)], fun j hj => by rw [w34, yupd_ne hj], fun i hi => ⟨by rw [w35, yupd_ne (by omega)], by rw [Fw.A (by decide)]⟩, fun x _ => by rw [Fw.A (by decide)], Fw.mono (fun a h => by omega)⟩
        have K1c := yKw_tr K1w Kw (Nat.le_refl _)
        have u16 : u1.A 34 6 = yI c := by rw [K1.2.A (by decide)]; exact hc6
        have start : ∀ Q, G (d + 6) 14 0 [some (.ref 34), some (.int (yI dep)), none, none] [] (yemb t) Q ↔ Cl (d + 5) 16 [.ref 34, .int (yI c)] (yemb w) (Gk (d + 6) 14 50 [some (.ref 34), some (.int (yI dep)), some (.int (yI k)), some (.int (yI c))] [] Q) := by
          intro Q
          rw [hwd]
          by_cases h5 : k = 5
          · have c5 : yI k = 5 := by rw [h5]; rfl
            have ha : al = true := by
              cases al
              · exact absurd ⟨h5, rfl⟩ hal2
              · rfl
            have hd : yI dep < 3 := (yI_lt (m := 3) (by omega) (by decide)).mpr (by rw [ha] at hal; exact of_decide_eq_true hal.symm)
            rw [c5]
            have cm5 : ¬ (5 : Int32) = -1 := by decide
            rw [c5] at g15
            simp only [s_14_0, s_14_1, s_14_2, s_14_3, s_14_4, s_14_5, s_14_6, s_14_7, s_14_8, s_14_9, s_14_10, s_14_11, s_14_12, s_14_13, s_14_14, s_14_15, s_14_16, s_14_17, s_14_18, s_14_19, s_14_20, s_14_21, s_14_22, s_14_23, s_14_24, s_14_25, s_14_26, s_14_27, s_14_28, s_14_29, s_14_30, s_14_31, s_14_32, s_14_33, s_14_34, s_14_35, s_14_36, s_14_37, s_14_38, s_14_38i, s_14_39, s_14_40, s_14_41, s_14_42, s_14_43, s_14_44, s_14_45, s_14_46, s_14_47, s_14_48, s_14_49, s_14_50, s_14_52, s_14_53, s_14_54, s_14_55, s_14_56, s_14_57, s_14_58, s_14_59, s_14_60, s_14_61, s_14_62, s_14_63, s_14_64, s_14_65, s_14_66, s_14_67, s_14_68, s_14_69, s_14_70, s_14_71, s_14_72, s_14_73, s_14_74, s_14_75, s_14_76, s_14_77, s_14_78, s_14_79, s_14_80, s_14_81, s_14_82, yO_34, yO_1, g15, cm5, ne_eq, not_false_eq_true, not_true_eq_false, if_true, if_false, hc6, c1, hd, hu1, u16, e7, yA_35, yn_35, i35, cc, Gk_v, Gk_n, xcat_nil, xcat_i, xcat_r, xcat_l, xcat_d, Nat.zero_le, Nat.reduceAdd, Nat.reduceLeDiff, true_and, and_true, ykl_i, ykl_r, ykl_n, ykl_l]
          · have c5 : ¬ yI k = 5 := fun h => h5 ((yI_inj (m := 5) (by omega) (by decide)).mp h)
            simp only [s_14_0, s_14_1, s_14_2, s_14_3, s_14_4, s_14_5, s_14_6, s_14_7, s_14_8, s_14_9, s_14_10, s_14_11, s_14_12, s_14_13, s_14_14, s_14_15, s_14_16, s_14_17, s_14_18, s_14_19, s_14_20, s_14_21, s_14_22, s_14_23, s_14_24, s_14_25, s_14_26, s_14_27, s_14_28, s_14_29, s_14_30, s_14_31, s_14_32, s_14_33, s_14_34, s_14_35, s_14_36, s_14_37, s_14_38, s_14_38i, s_14_39, s_14_40, s_14_41, s_14_42, s_14_43, s_14_44, s_14_45, s_14_46, s_14_47, s_14_48, s_14_49, s_14_50, s_14_52, s_14_53, s_14_54, s_14_55, s_14_56, s_14_57, s_14_58, s_14_59, s_14_60, s_14_61, s_14_62, s_14_63, s_14_64, s_14_65, s_14_66, s_14_67, s_14_68, s_14_69, s_14_70, s_14_71, s_14_72, s_14_73, s_14_74, s_14_75, s_14_76, s_14_77, s_14_78, s_14_79, s_14_80, s_14_81, s_14_82, yO_34, yO_1, g15, cm1, c5, ne_eq, not_false_eq_true, not_true_eq_false, if_true, if_false, hc6, c1, hu1, u16, e7, yA_35, yn_35, i35, cc, Gk_v, Gk_n, xcat_nil, xcat_i, xcat_r, xcat_l, xcat_d, Nat.zero_le, Nat.reduceAdd, Nat.reduceLeDiff, true_and, and_true, ykl_i, ykl_r, ykl_n, ykl_l]
        obtain ⟨r1, r2⟩ := m_16 (d := d + 2) k6 (show c < 60 by omega) (r := T.2.1 c) Tw (by rw [w35, yupd_same])
        unfold ycmd1
        cases hr : yrn n B (ynlo k) (ynhi k) (ynb k) 0 q0 (T.2.1 c) with
        | inl e =>
          obtain ⟨e, a⟩ := e
          obtain ⟨v, hv, x8, x9, xe⟩ := r1 e a hr
          refine ⟨v, fun Q => ?_, x8, x9, yKw_e K1c xe⟩
          show G (d + 6) 14 0 [some (.ref 34), some (.int (yI dep)), none, none] [] (yemb t) Q ↔ _
          refine (start Q).trans ((hv _).trans ?_)
          simp only [s_14_0, s_14_1, s_14_2, s_14_3, s_14_4, s_14_5, s_14_6, s_14_7, s_14_8, s_14_9, s_14_10, s_14_11, s_14_12, s_14_13, s_14_14, s_14_15, s_14_16, s_14_17, s_14_18, s_14_19, s_14_20, s_14_21, s_14_22, s_14_23, s_14_24, s_14_25, s_14_26, s_14_27, s_14_28, s_14_29, s_14_30, s_14_31, s_14_32, s_14_33, s_14_34, s_14_35, s_14_36, s_14_37, s_14_38, s_14_38i, s_14_39, s_14_40, s_14_41, s_14_42, s_14_43, s_14_44, s_14_45, s_14_46, s_14_47, s_14_48, s_14_49, s_14_50, s_14_51, s_14_52, s_14_53, s_14_54, s_14_55, s_14_56, s_14_57, s_14_58, s_14_59, s_14_60, s_14_61, s_14_62, s_14_63, s_14_64, s_14_65, s_14_66, s_14_67, s_14_68, s_14_69, s_14_70, s_14_71, s_14_72, s_14_73, s_14_74, s_14_75, s_14_76, s_14_77, s_14_78, s_14_79, s_14_80, s_14_81, s_14_82, ne_eq, not_true_eq_false, if_false, ybo_0, Gk_v, Gk_n, xcat_nil, xcat_i, xcat_r, xcat_l, xcat_d, Nat.zero_le, Nat.reduceAdd, Nat.reduceLeDiff, true_and, and_true, ykl_i, ykl_r, ykl_n, ykl_l]
        | inr z =>
          obtain ⟨q1, r⟩ := z
          obtain ⟨v, hv, Tv, vn, vx, vj, Fv⟩ := r2 q1 r hr
          have Kv : yKw w v c := ⟨vj, fun j _ => by rw [Fv.A (by decide)], fun i _ => ⟨by rw [Fv.A (by decide)], by rw [Fv.A (by decide)]⟩, vx, Fv.mono (fun a h => by omega)⟩
          have Kc := yKw_tr K1c Kv (Nat.le_refl _)
          have v35 : v.A 35 c = yI k := by rw [Fv.A (by decide), w35, yupd_same]
          have v6 : v.A 34 6 = yI (c + 1) := by rw [Fv.A (by decide), w34, yupd_same]
          have c10 : ¬ (1 : Int32) = 0 := by decide
          show yRg _ t n B c (if k = 5 then yrep n B blk q1 c (yTk1 T c k r) else .inr (q1, (c + 1, yTe (yTk1 T c k r) c (c + 1))))
          by_cases h5 : k = 5
          · rw [if_pos h5]
            have c5 : yI k = 5 := by rw [h5]; rfl
            have ha : al = true := by
              cases al
              · exact absurd ⟨h5, rfl⟩ hal2
              · rfl
            have ed : yI dep + 1 = yI (dep + 1) := yI_add
            unfold yrep
            cases h40 : yat n B q1 40
            · rw [if_neg (by decide)]
              have g : ∀ Q', Cl (d + 5) 87 [.ref 1, .int 40] (yemb v) Q' ↔ Q' _ _ := m_87f (d := d + 3) Tv (c := 40) (by decide) (by decide) (by decide) (of_decide_eq_false h40)
              refine ⟨_, fun Q => ?_, yrf_8, yrf_9, yKw_e Kc yKwe_rf⟩
              show G (d + 6) 14 0 [some (.ref 34), some (.int (yI dep)), none, none] [] (yemb t) Q ↔ _
              refine (start Q).trans ((hv _).trans ?_)
              simp only [s_14_0, s_14_1, s_14_2, s_14_3, s_14_4, s_14_5, s_14_6, s_14_7, s_14_8, s_14_9, s_14_10, s_14_11, s_14_12, s_14_13, s_14_14, s_14_15, s_14_16, s_14_17, s_14_18, s_14_19, s_14_20, s_14_21, s_14_22, s_14_23, s_14_24, s_14_25, s_14_26, s_14_27, s_14_28, s_14_29, s_14_30, s_14_31, s_14_32, s_14_33, s_14_34, s_14_35, s_14_36, s_14_37, s_14_38, s_14_38i, s_14_39, s_14_40, s_14_41, s_14_42, s_14_43, s_14_44, s_14_45, s_14_46, s_14_47, s_14_48, s_14_49, s_14_50, s_14_51, s_14_52, s_14_53, s_14_54, s_14_55, s_14_56, s_14_57, s_14_58, s_14_59, s_14_60, s_14_61, s_14_62, s_14_63, s_14_64, s_14_65, s_14_66, s_14_67, s_14_68, s_14_69, s_14_70, s_14_71, s_14_72, s_14_73, s_14_74, s_14_75, s_14_76, s_14_77, s_14_78, s_14_79, s_14_80, s_14_81, s_14_82, yO_34, yO_1, c10, c5, ne_eq, not_false_eq_true, not_true_eq_false, if_true, if_false, g, ybo_0, Gk_v, Gk_n, xcat_nil, xcat_i, xcat_r, xcat_l, xcat_d, Nat.zero_le, Nat.reduceAdd, Nat.reduceLeDiff, true_and, and_true, ykl_i, ykl_r, ykl_n, ykl_l]
            · rw [if_pos rfl]
              obtain ⟨x, hx, Tx, Kx⟩ := m_87t (d := d + 3) Tv (c := 40) (by decide) (by decide) (by decide) (of_decide_eq_true h40)
              have hx' : ∀ Q', Cl (d + 5) 87 [.ref 1, .int 40] (yemb v) Q' ↔ Q' _ _ := hx
              have x6 : x.A 34 6 = yI (c + 1) := by rw [Kx.2.A (by decide)]; exact v6
              have H := HB ha x (ysk n B (q1 + 1)) (c + 1) (yTk1 T c k r) Tx x6 (by omega)
              have hg40 := yat_go h40
              rcases hrb : blk (ysk n B (q1 + 1)) (c + 1) (yTk1 T c k r) with ⟨e, a⟩ | ⟨q2, c2, T2⟩
              · rw [hrb] at H
                obtain ⟨y, hy, y8, y9, ye⟩ := H
                refine ⟨y, fun Q => ?_, y8, y9, yKw_e (yKw_tr Kc (yKw_p Kx) (Nat.le_refl _)) ye⟩
                show G (d + 6) 14 0 [some (.ref 34), some (.int (yI dep)), none, none] [] (yemb t) Q ↔ _
                refine (start Q).trans ((hv _).trans ?_)
                simp only [s_14_0, s_14_1, s_14_2, s_14_3, s_14_4, s_14_5, s_14_6, s_14_7, s_14_8, s_14_9, s_14_10, s_14_11, s_14_12, s_14_13, s_14_14, s_14_15, s_14_16, s_14_17, s_14_18, s_14_19, s_14_20, s_14_21, s_14_22, s_14_23, s_14_24, s_14_25, s_14_26, s_14_27, s_14_28, s_14_29, s_14_30, s_14_31, s_14_32, s_14_33, s_14_34, s_14_35, s_14_36, s_14_37, s_14_38, s_14_38i, s_14_39, s_14_40, s_14_41, s_14_42, s_14_43, s_14_44, s_14_45, s_14_46, s_14_47, s_14_48, s_14_49, s_14_50, s_14_51, s_14_52, s_14_53, s_14_54, s_14_55, s_14_56, s_14_57, s_14_58, s_14_59, s_14_60, s_14_61, s_14_62, s_14_63, s_14_64, s_14_65, s_14_66, s_14_67, s_14_68, s_14_69, s_14_70, s_14_71, s_14_72, s_14_73, s_14_74, s_14_75, s_14_76, s_14_77, s_14_78, s_14_79, s_14_80, s_14_81, s_14_82, yO_34, yO_1, c10, c5, ne_eq, not_false_eq_true, not_true_eq_false, if_true, if_false, hx', ed, hy, ybo_0, Gk_v, Gk_n, xcat_nil, xcat_i, xcat_r, xcat_l, xcat_d, Nat.zero_le, Nat.reduceAdd, Nat.reduceLeDiff, true_and, and_true, ykl_i, ykl_r, ykl_n, ykl_l]
              · obtain ⟨⟨b1, b2⟩, b3, b4⟩ := hb ha _ _ _ _ _ _ hg40.2 (by omega) hrb
                rw [hrb] at H
                obtain ⟨y, hy, Ty, y6, Gy, Ky⟩ := H
                show yRg _ t n B c (if yat n B q2 41 = true then .inr (ysk n B (q2 + 1), (c2, yTe T2 c c2)) else .inl (-2, q2))
                have Kcy := yKw_tr (yKw_tr Kc (yKw_p (c := c) Kx) (Nat.le_refl _)) Ky (by omega)
                cases h41 : yat n B q2 41
                · rw [if_neg (by decide)]
                  have g : ∀ Q', Cl (d + 5) 87 [.ref 1, .int 41] (yemb y) Q' ↔ Q' _ _ := m_87f (d := d + 3) Ty (c := 41) (by decide) (by decide) (by decide) (of_decide_eq_false h41)
                  refine ⟨_, fun Q => ?_, yrf_8, yrf_9, yKw_e Kcy yKwe_rf⟩
                  show G (d + 6) 14 0 [some (.ref 34), some (.int (yI dep)), none, none] [] (yemb t) Q ↔ _
                  refine (start Q).trans ((hv _).trans ?_)
                  simp only [s_14_0, s_14_1, s_14_2, s_14_3, s_14_4, s_14_5, s_14_6, s_14_7, s_14_8, s_14_9, s_14_10, s_14_11, s_14_12, s_14_13, s_14_14, s_14_15, s_14_16, s_14_17, s_14_18, s_14_19, s_14_20, s_14_21, s_14_22, s_14_23, s_14_24, s_14_25, s_14_26, s_14_27, s_14_28, s_14_29, s_14_30, s_14_31, s_14_32, s_14_33, s_14_34, s_14_35, s_14_36, s_14_37, s_14_38, s_14_38i, s_14_39, s_14_40, s_14_41, s_14_42, s_14_43, s_14_44, s_14_45, s_14_46, s_14_47, s_14_48, s_14_49, s_14_50, s_14_51, s_14_52, s_14_53, s_14_54, s_14_55, s_14_56, s_14_57, s_14_58, s_14_59, s_14_60, s_14_61, s_14_62, s_14_63, s_14_64, s_14_65, s_14_66, s_14_67, s_14_68, s_14_69, s_14_70, s_14_71, s_14_72, s_14_73, s_14_74, s_14_75, s_14_76, s_14_77, s_14_78, s_14_79, s_14_80, s_14_81, s_14_82, yO_34, yO_1, c10, c5, ne_eq, not_false_eq_true, not_true_eq_false, if_true, if_false, hx', ed, hy, g, ybo_0, Gk_v, Gk_n, xcat_nil, xcat_i, xcat_r, xcat_l, xcat_d, Nat.zero_le, Nat.reduceAdd, Nat.reduceLeDiff, true_and, and_true, ykl_i, ykl_r, ykl_n, ykl_l]
                · rw [if_pos rfl]
                  obtain ⟨z, hz, Tz, Kz⟩ := m_87t (d := d + 3) Ty (c := 41) (by decide) (by decide) (by decide) (of_decide_eq_true h41)
                  have hz' : ∀ Q', Cl (d + 5) 87 [.ref 1, .int 41] (yemb y) Q' ↔ Q' _ _ := hz
                  have z6 : z.A 34 6 = yI c2 := by rw [Kz.2.A (by decide)]; exact y6
                  have Fe : yFr (fun a => a = 37) z (z.s1 37 c (yI c2)) := yFr_s1 rfl
                  have Ke : yKw z (z.s1 37 c (yI c2)) c := ⟨fun j _ => by rw [Fe.A (by decide)], fun j _ => by rw [Fe.A (by decide)], fun i hi => ⟨by rw [Fe.A (by decide)], by rw [ys1_upd, yupd_ne (by omega)]⟩, fun x _ => by rw [Fe.A (by decide)], Fe.mono (fun a h => by omega)⟩
                  have hT2 := b3 c (Nat.zero_le _) (by omega)
                  have hTK : (yTe T2 c c2).1 c = k := by
                    show T2.1 c = k
                    rw [hT2.1]
                    exact yup_same
                  have hTN : (yTe T2 c c2).2.1 c = r := by
                    show T2.2.1 c = r
                    rw [hT2.2.1]
                    exact if_pos rfl
                  refine ⟨z.s1 37 c (yI c2), fun Q => ?_, yTk_35 Tz Fe (fun a (h : a = 37) => by omega), by rw [Fe.A (by decide)]; exact z6, fun i hi1 hi2 => ?_, yKw_tr (yKw_tr Kcy (yKw_p (c := c) Kz) (Nat.le_refl _)) Ke (Nat.le_refl _)⟩
                  · show G (d + 6) 14 0 [some (.ref 34), some (.int (yI dep)), none, none] [] (yemb t) Q ↔ _
                    refine (start Q).trans ((hv _).trans ?_)
                    simp only [s_14_0, s_14_1, s_14_2, s_14_3, s_14_4, s_14_5, s_14_6, s_14_7, s_14_8, s_14_9, s_14_10, s_14_11, s_14_12, s_14_13, s_14_14, s_14_15, s_14_16, s_14_17, s_14_18, s_14_19, s_14_20, s_14_21, s_14_22, s_14_23, s_14_24, s_14_25, s_14_26, s_14_27, s_14_28, s_14_29, s_14_30, s_14_31, s_14_32, s_14_33, s_14_34, s_14_35, s_14_36, s_14_37, s_14_38, s_14_38i, s_14_39, s_14_40, s_14_41, s_14_42, s_14_43, s_14_44, s_14_45, s_14_46, s_14_47, s_14_48, s_14_49, s_14_50, s_14_51, s_14_52, s_14_53, s_14_54, s_14_55, s_14_56, s_14_57, s_14_58, s_14_59, s_14_60, s_14_61, s_14_62, s_14_63, s_14_64, s_14_65, s_14_66, s_14_67, s_14_68, s_14_69, s_14_70, s_14_71, s_14_72, s_14_73, s_14_74, s_14_75, s_14_76, s_14_77, s_14_78, s_14_79, s_14_80, s_14_81, s_14_82, yO_34, yO_1, c10, c5, ne_eq, not_false_eq_true, not_true_eq_false, if_true, if_false, hx', ed, hy, hz', yA_37, yn_37, i35, cc, z6, ybo_1, Gk_v, Gk_n, xcat_nil, xcat_i, xcat_r, xcat_l, xcat_d, Nat.zero_le, Nat.reduceAdd, Nat.reduceLeDiff, true_and, and_true, ykl_i, ykl_r, ykl_n, ykl_l]
                  · by_cases e : i = c
                    · subst e
                      rw [hTK, hTN]
                      refine ⟨?_, fun j hj => ?_, ?_⟩
                      · rw [Fe.A (by decide), Kz.2.A (by decide), (Ky.2.2.1 i (by omega)).1, Kx.2.A (by decide)]; exact v35
                      · have := ynb_le k
                        rw [Fe.A (by decide), Kz.2.A (by decide), Ky.2.2.2.1 _ (by omega), Kx.2.A (by decide)]
                        exact vn j hj
                      · rw [ys1_upd, yupd_same]
                        exact congrArg yI (yup_same (f := T2.2.2) (i := i) (v := c2)).symm
                    · obtain ⟨f1, f2, f3⟩ := Gy i (by omega) hi2
                      refine ⟨?_, fun j hj => ?_, ?_⟩
                      · rw [Fe.A (by decide), Kz.2.A (by decide)]; exact f1
                      · rw [Fe.A (by decide), Kz.2.A (by decide)]; exact f2 j hj
                      · rw [ys1_upd, yupd_ne e, Kz.2.A (by decide), f3]
                        exact congrArg yI (yup_ne (f := T2.2.2) (i := c) (v := c2) e).symm
          · rw [if_neg h5]
            have c5 : ¬ yI k = 5 := fun h => h5 ((yI_inj (m := 5) (by omega) (by decide)).mp h)
            have Fe : yFr (fun a => a = 37) v (v.s1 37 c (yI (c + 1))) := yFr_s1 rfl
            have Ke : yKw v (v.s1 37 c (yI (c + 1))) c := ⟨fun j _ => by rw [Fe.A (by decide)], fun j _ => by rw [Fe.A (by decide)], fun i hi => ⟨by rw [Fe.A (by decide)], by rw [ys1_upd, yupd_ne (by omega)]⟩, fun x _ => by rw [Fe.A (by decide)], Fe.mono (fun a h => by omega)⟩
            refine ⟨v.s1 37 c (yI (c + 1)), fun Q => ?_, yTk_35 Tv Fe (fun a (h : a = 37) => by omega), by rw [Fe.A (by decide)]; exact v6, fun i hi1 hi2 => ?_, yKw_tr Kc Ke (Nat.le_refl _)⟩
            · show G (d + 6) 14 0 [some (.ref 34), some (.int (yI dep)), none, none] [] (yemb t) Q ↔ _
              refine (start Q).trans ((hv _).trans ?_)
              simp only [s_14_0, s_14_1, s_14_2, s_14_3, s_14_4, s_14_5, s_14_6, s_14_7, s_14_8, s_14_9, s_14_10, s_14_11, s_14_12, s_14_13, s_14_14, s_14_15, s_14_16, s_14_17, s_14_18, s_14_19, s_14_20, s_14_21, s_14_22, s_14_23, s_14_24, s_14_25, s_14_26, s_14_27, s_14_28, s_14_29, s_14_30, s_14_31, s_14_32, s_14_33, s_14_34, s_14_35, s_14_36, s_14_37, s_14_38, s_14_38i, s_14_39, s_14_40, s_14_41, s_14_42, s_14_43, s_14_44, s_14_45, s_14_46, s_14_47, s_14_48, s_14_49, s_14_50, s_14_51, s_14_52, s_14_53, s_14_54, s_14_55, s_14_56, s_14_57, s_14_58, s_14_59, s_14_60, s_14_61, s_14_62, s_14_63, s_14_64, s_14_65, s_14_66, s_14_67, s_14_68, s_14_69, s_14_70, s_14_71, s_14_72, s_14_73, s_14_74, s_14_75, s_14_76, s_14_77, s_14_78, s_14_79, s_14_80, s_14_81, s_14_82, yO_34, yO_1, c10, c5, ne_eq, not_false_eq_true, if_true, yA_37, yn_37, i35, cc, v6, ybo_1, Gk_v, Gk_n, xcat_nil, xcat_i, xcat_r, xcat_l, xcat_d, Nat.zero_le, Nat.reduceAdd, Nat.reduceLeDiff, true_and, and_true, ykl_i, ykl_r, ykl_n, ykl_l]
            · obtain rfl : i = c := by omega
              have hTK : (yTe (yTk1 T i k r) i (i + 1)).1 i = k := yup_same
              have hTN : (yTe (yTk1 T i k r) i (i + 1)).2.1 i = r := if_pos rfl
              have hTE : (yTe (yTk1 T i k r) i (i + 1)).2.2 i = i + 1 := yup_same
              rw [hTK, hTN, hTE]
              exact ⟨by rw [Fe.A (by decide)]; exact v35, fun j hj => by rw [Fe.A (by decide)]; exact vn j hj, by rw [ys1_upd, yupd_same]⟩
theorem l_13 {cmd : Nat → Nat → yTb → yPg} (HC : yBz (d + 6) 14 dep n B cmd) (hcmd : ∀ q c T q' c' T', q ≤ n → c ≤ 60 → cmd q c T = .inr (q', (c', T')) → ((q < q' ∧ q' ≤ n) ∧ (c < c' ∧ c' ≤ 60)) ∧ yagr 0 c T T') (hblk : ∀ m q c T q' c' T', q ≤ n → c ≤ 60 → ycms n B cmd true m q c T = .inr (q', (c', T')) → (c ≤ c' ∧ c' ≤ 60) ∧ yagr 0 c T T') : ∀ m (t : yT) (q c : Nat) (T : yTb) (i : Nat), n - q ≤ m → i ≤ q → yTk t n B q → t.A 34 6 = yI c → c ≤ 60 → yRg (fun r' s' => Ga (d + 7) 13 2 [some (.ref 34), some (.int (yI dep)), some (.int (yI i))] [] (yemb t) r' s') t n B c (ycms n B cmd true m q c T) := by
  have fin : ∀ (t : yT) (q c : Nat) (T : yTb) (i : Nat), yTk t n B q → t.A 34 6 = yI c → (n ≤ q ∨ (true = true ∧ yat n B q 41 = true)) → yRg (fun r' s' => Ga (d + 7) 13 2 [some (.ref 34), some (.int (yI dep)), some (.int (yI i))] [] (yemb t) r' s') t n B c (.inr (q, (c, T))) := by
    intro t q c T i Tq hc6 hs
    have g83 := m_83 (d := d + 6) Tq
    have g84 : ∀ Q', Cl (d + 6) 84 [.ref 1, .int 41] (yemb t) Q' ↔ Q' (.inl (some (.int (yb (yat n B q 41))))) (yemb t) := m_84 (d := d + 6) Tq (c := 41) (by decide) (by decide) (by decide)
    have c10 : ¬ (1 : Int32) = 0 := by decide
    refine ⟨t, fun Q => ?_, Tq, hc6, fun i h1 h2 => by omega, yKw_rfl⟩
    rw [s_13_2]
    by_cases h6 : (600 : Int32) ≤ yI i
    · simp only [s_13_0, s_13_1, s_13_3, s_13_4, s_13_5, s_13_6, s_13_7, s_13_8, s_13_9, s_13_10, s_13_11, s_13_12, s_13_13, s_13_14, s_13_15, s_13_16, s_13_17, s_13_18, s_13_19, s_13_20, s_13_21, s_13_22, s_13_23, s_13_24, s_13_25, s_13_26, s_13_27, s_13_28, h6, if_true, ybo_1, Gk_v, Gk_n, xcat_nil, xcat_i, xcat_r, xcat_l, xcat_d, Nat.zero_le, Nat.reduceAdd, Nat.reduceLeDiff, true_and, and_true, ykl_i, ykl_r, ykl_n, ykl_l]
    · by_cases hn : n ≤ q
      · rw [yb_dec hn] at g83
        simp only [s_13_0, s_13_1, s_13_3, s_13_4, s_13_5, s_13_6, s_13_7, s_13_8, s_13_9, s_13_10, s_13_11, s_13_12, s_13_13, s_13_14, s_13_15, s_13_16, s_13_17, s_13_18, s_13_19, s_13_20, s_13_21, s_13_22, s_13_23, s_13_24, s_13_25, s_13_26, s_13_27, s_13_28, yO_34, yO_1, h6, if_false, g83, c10, ne_eq, not_false_eq_true, if_true, ybo_1, Gk_v, Gk_n, xcat_nil, xcat_i, xcat_r, xcat_l, xcat_d, Nat.zero_le, Nat.reduceAdd, Nat.reduceLeDiff, true_and, and_true, ykl_i, ykl_r, ykl_n, ykl_l]
      · rw [yb_dec0 hn] at g83
        have h41 := hs.resolve_left hn
        rw [h41.2] at g84
        simp only [s_13_0, s_13_1, s_13_3, s_13_4, s_13_5, s_13_6, s_13_7, s_13_8, s_13_9, s_13_10, s_13_11, s_13_12, s_13_13, s_13_14, s_13_15, s_13_16, s_13_17, s_13_18, s_13_19, s_13_20, s_13_21, s_13_22, s_13_23, s_13_24, s_13_25, s_13_26, s_13_27, s_13_28, yO_34, yO_1, h6, if_false, g83, g84, ifbn, ne_eq, not_true_eq_false, if_true, ybo_1, Gk_v, Gk_n, xcat_nil, xcat_i, xcat_r, xcat_l, xcat_d, Nat.zero_le, Nat.reduceAdd, Nat.reduceLeDiff, true_and, and_true, ykl_i, ykl_r, ykl_n, ykl_l]
  intro m
  induction m with
  | zero =>
    intro t q c T i hm hi Tq hc6 hc
    exact fin t q c T i Tq hc6 (Or.inl (by omega))
  | succ m ih =>
    intro t q c T i hm hi Tq hc6 hc
    have h600 := Tq.1.1
    have hqn := Tq.2.1
    rw [ycms]
    by_cases hs : n ≤ q ∨ (true = true ∧ yat n B q 41 = true)
    · rw [if_pos hs]
      exact fin t q c T i Tq hc6 hs
    · rw [if_neg hs]
      have hn : ¬ n ≤ q := fun h => hs (Or.inl h)
      have h41 : yat n B q 41 = false := by
        cases hx : yat n B q 41
        · rfl
        · exact absurd (Or.inr ⟨rfl, hx⟩) hs
      have g83 := m_83 (d := d + 6) Tq
      rw [yb_dec0 hn] at g83
      have g84 : ∀ Q', Cl (d + 6) 84 [.ref 1, .int 41] (yemb t) Q' ↔ Q' (.inl (some (.int (yb (yat n B q 41))))) (yemb t) := m_84 (d := d + 6) Tq (c := 41) (by decide) (by decide) (by decide)
      rw [h41] at g84
      have h6 : ¬ (600 : Int32) ≤ yI i := fun h' => absurd ((yI_le (n := 600) (by decide) (by omega)).mp h') (by omega)
      have h7 : yI i + 1 = yI (i + 1) := yI_add
      have c10 : ¬ (1 : Int32) = 0 := by decide
      have H := HC t q c T Tq hc6 hc
      rcases hr : cmd q c T with ⟨e, a⟩ | ⟨q1, c1, T1⟩
      · rw [hr] at H
        obtain ⟨u, hu, x8, x9, xe⟩ := H
        refine ⟨u, fun Q => ?_, x8, x9, xe⟩
        rw [s_13_2]
        simp only [s_13_0, s_13_1, s_13_3, s_13_4, s_13_5, s_13_6, s_13_7, s_13_8, s_13_9, s_13_10, s_13_11, s_13_12, s_13_13, s_13_14, s_13_15, s_13_16, s_13_17, s_13_18, s_13_19, s_13_20, s_13_21, s_13_22, s_13_23, s_13_24, s_13_25, s_13_26, s_13_27, s_13_28, yO_34, yO_1, h6, if_false, g83, g84, ifbn, Bool.false_eq_true, ne_eq, not_true_eq_false, hu, if_true, ybo_0, Gk_v, Gk_n, xcat_nil, xcat_i, xcat_r, xcat_l, xcat_d, Nat.zero_le, Nat.reduceAdd, Nat.reduceLeDiff, true_and, and_true, ykl_i, ykl_r, ykl_n, ykl_l]
      · obtain ⟨⟨a1, a2⟩, a3⟩ := hcmd _ _ _ _ _ _ hqn hc hr
        rw [hr] at H
        obtain ⟨u, hu, Tu, u6, Gu, Ku⟩ := H
        show yRg _ t n B c (if yat n B q1 59 = true then ycms n B cmd true m (ysk n B (q1 + 1)) c1 T1 else .inl (-2, q1))
        cases h59 : yat n B q1 59
        · rw [if_neg (by decide)]
          have g : ∀ Q', Cl (d + 6) 87 [.ref 1, .int 59] (yemb u) Q' ↔ Q' _ _ := m_87f (d := d + 4) Tu (c := 59) (by decide) (by decide) (by decide) (of_decide_eq_false h59)
          refine ⟨_, fun Q => ?_, yrf_8, yrf_9, yKw_e Ku yKwe_rf⟩
          rw [s_13_2]
          simp only [s_13_0, s_13_1, s_13_3, s_13_4, s_13_5, s_13_6, s_13_7, s_13_8, s_13_9, s_13_10, s_13_11, s_13_12, s_13_13, s_13_14, s_13_15, s_13_16, s_13_17, s_13_18, s_13_19, s_13_20, s_13_21, s_13_22, s_13_23, s_13_24, s_13_25, s_13_26, s_13_27, s_13_28, yO_34, yO_1, h6, if_false, g83, g84, ifbn, Bool.false_eq_true, ne_eq, not_true_eq_false, not_false_eq_true, hu, c10, g, if_true, ybo_0, Gk_v, Gk_n, xcat_nil, xcat_i, xcat_r, xcat_l, xcat_d, Nat.zero_le, Nat.reduceAdd, Nat.reduceLeDiff, true_and, and_true, ykl_i, ykl_r, ykl_n, ykl_l]
        · rw [if_pos rfl]
          obtain ⟨x, hx, Tx, Kx⟩ := m_87t (d := d + 4) Tu (c := 59) (by decide) (by decide) (by decide) (of_decide_eq_true h59)
          have hx' : ∀ Q', Cl (d + 6) 87 [.ref 1, .int 59] (yemb u) Q' ↔ Q' _ _ := hx
          have hg59 := yat_go h59
          have x6 : x.A 34 6 = yI c1 := by rw [Kx.2.A (by decide)]; exact u6
          have H2 := ih x (ysk n B (q1 + 1)) c1 T1 (i + 1) (by omega) (by omega) Tx x6 a2.2
          have step : ∀ Q, G (d + 7) 13 2 [some (.ref 34), some (.int (yI dep)), some (.int (yI i))] [] (yemb t) Q ↔ G (d + 7) 13 2 [some (.ref 34), some (.int (yI dep)), some (.int (yI (i + 1)))] [] (yemb x) Q := by
            intro Q
            rw [s_13_2]
            simp only [s_13_0, s_13_1, s_13_3, s_13_4, s_13_5, s_13_6, s_13_7, s_13_8, s_13_9, s_13_10, s_13_11, s_13_12, s_13_13, s_13_14, s_13_15, s_13_16, s_13_17, s_13_18, s_13_19, s_13_20, s_13_21, s_13_22, s_13_23, s_13_24, s_13_25, s_13_26, s_13_27, s_13_28, yO_34, yO_1, h6, if_false, g83, g84, ifbn, Bool.false_eq_true, ne_eq, not_true_eq_false, not_false_eq_true, hu, c10, hx', if_true, h7, Gk_v, Gk_n, xcat_nil, xcat_i, xcat_r, xcat_l, xcat_d, Nat.zero_le, Nat.reduceAdd, Nat.reduceLeDiff, true_and, and_true, ykl_i, ykl_r, ykl_n, ykl_l]
          rcases hr2 : ycms n B cmd true m (ysk n B (q1 + 1)) c1 T1 with ⟨e, a⟩ | ⟨q2, c2, T2⟩
          · rw [hr2] at H2
            obtain ⟨y, hy, y8, y9, ye⟩ := H2
            exact ⟨y, fun Q => (step Q).trans (hy Q), y8, y9, yKw_e (yKw_tr Ku (yKw_p (c := c) Kx) (Nat.le_refl _)) ye⟩
          · obtain ⟨b2, b3⟩ := hblk _ _ _ _ _ _ _ hg59.2 a2.2 hr2
            rw [hr2] at H2
            obtain ⟨y, hy, Ty, y6, Gy, Ky⟩ := H2
            refine ⟨y, fun Q => (step Q).trans (hy Q), Ty, y6, fun i hi1 hi2 => ?_, yKw_tr (yKw_tr Ku (yKw_p (c := c) Kx) (Nat.le_refl _)) Ky (by omega)⟩
            by_cases hi : i < c1
            · obtain ⟨f1, f2, f3⟩ := Gu i hi1 hi
              obtain ⟨e1, e2, e3⟩ := b3 i (Nat.zero_le _) hi
              rw [e1, e2, e3]
              refine ⟨?_, fun j hj => ?_, ?_⟩
              · rw [(Ky.2.2.1 i hi).1, Kx.2.A (by decide)]; exact f1
              · have := ynb_le (T1.1 i)
                rw [Ky.2.2.2.1 _ (by omega), Kx.2.A (by decide)]; exact f2 j hj
              · rw [(Ky.2.2.1 i hi).2, Kx.2.A (by decide)]; exact f3
            · exact Gy i (by omega) hi2
theorem m_13 {cmd : Nat → Nat → yTb → yPg} (HC : yBz (d + 6) 14 dep n B cmd) (hcmd : ∀ q c T q' c' T', q ≤ n → c ≤ 60 → cmd q c T = .inr (q', (c', T')) → ((q < q' ∧ q' ≤ n) ∧ (c < c' ∧ c' ≤ 60)) ∧ yagr 0 c T T') (hblk : ∀ m q c T q' c' T', q ≤ n → c ≤ 60 → ycms n B cmd true m q c T = .inr (q', (c', T')) → (c ≤ c' ∧ c' ≤ 60) ∧ yagr 0 c T T') : yBz (d + 7) 13 dep n B (ycms n B cmd true n) := by
  intro t q c T Tq hc6 hc
  refine yRg_to (fun r' s' h Q => ?_) (l_13 (d := d) HC hcmd hblk n t q c T 0 (by omega) (Nat.zero_le _) Tq hc6 hc)
  refine Iff.trans ?_ (h Q)
  show G (d + 7) 13 0 [some (.ref 34), some (.int (yI dep)), none] [] (yemb t) Q ↔ _
  simp only [s_13_0, s_13_1, Gk_v, Gk_n, xcat_nil, xcat_i, xcat_r, xcat_l, xcat_d, Nat.zero_le, Nat.reduceAdd, Nat.reduceLeDiff, true_and, and_true, ykl_i, ykl_r, ykl_n, ykl_l]
  exact Iff.rfl
/-- commands of every nesting -/
theorem m_14K : ∀ k, k ≤ 3 → yBz (d + 6 + 2 * k) 14 (3 - k) n B (ycmK n B k) := by
  intro k
  induction k with
  | zero =>
    intro _
    exact m_14 (d := d) (al := false) (dep := 3) (W := fun _ _ _ => False) (by decide) (Nat.le_refl _) (fun h => by cases h) (fun h => by cases h)
  | succ k ih =>
    intro hk
    have H := m_13 (d := d + 2 * k) (n := n) (B := B) (dep := 3 - k) (by rw [show d + 2 * k + 6 = d + 6 + 2 * k by omega]; exact ih (by omega)) (fun q c T q' c' T' h1 h2 h3 => ⟨(ycmK_ok k q c T q' c' T' h1 h2 h3).1, (ycmK_ok k q c T q' c' T' h1 h2 h3).2.1⟩) (fun m q c T q' c' T' h1 h2 h3 => ⟨(yblk_ok (ins := true) k m q c T q' c' T' h1 h2 h3).1.2, (yblk_ok (ins := true) k m q c T q' c' T' h1 h2 h3).2.1⟩)
    have H2 := m_14 (d := d + 2 * k + 2) (n := n) (B := B) (blk := ycms n B (ycmK n B k) true n) (al := true) (dep := 3 - (k + 1)) (W := fun T lo hi => ywfK T k lo hi) (decide_eq_true (show 3 - (k + 1) < 3 by omega)).symm (by omega) (fun _ => by
      rw [show 3 - (k + 1) + 1 = 3 - k by omega]
      exact H) (fun _ => yblk_ok k n)
    rw [show d + 2 * k + 2 + 6 = d + 6 + 2 * (k + 1) by omega] at H2
    exact H2
/-- a whole script, read by the class -/
theorem m_12 (Tq : yTk t n B (ysk n B 0)) : match yrun n B with
    | .inr (_, (c', T')) => ∃ u, Ra (d + 14) 12 [.ref 34] (yemb t) (.inl (some (.int 1))) (yemb u) ∧ (((u.A 34 6 = yI c' ∧ (u.A 34 7 = 0 ∧ u.A 34 8 = 0)) ∧ yGc u 0 c' T') ∧ ((∀ j, (j < 3 ∨ 7 < j) → u.A 1 j = t.A 1 j) ∧ yFr (fun a => a = 1 ∨ (34 ≤ a ∧ a ≤ 37)) t u))
    | .inl (e, a) => ∃ u, Ra (d + 14) 12 [.ref 34] (yemb t) (.inl (some (.int 0))) (yemb u) ∧ ((u.A 1 8 = e ∧ u.A 1 9 = yI a) ∧ ((∀ j, j < 3 → u.A 1 j = t.A 1 j) ∧ yFr (fun a => a = 1 ∨ (34 ≤ a ∧ a ≤ 37)) t u)) := by
  obtain ⟨w, hw⟩ : ∃ w, w = ((t.s1 34 6 0).s1 34 7 0).s1 34 8 0 := ⟨_, rfl⟩
  have Fw : yFr (fun a => a = 34) t w := by
    rw [hw]
    exact ((yFr_s1 (P := fun a => a = 34) rfl).trans (yFr_s1 (P := fun a => a = 34) rfl) (P'' := fun a => a = 34) (fun a h => h.elim id id)).trans (yFr_s1 (P := fun a => a = 34) rfl) (fun a h => h.elim id id)
  have w6 : w.A 34 6 = yI 0 := by rw [hw, ys1_upd, yupd_ne (by decide), ys1_upd, yupd_ne (by decide), ys1_same]; rfl
  have w7 : w.A 34 7 = 0 := by rw [hw, ys1_upd, yupd_ne (by decide), ys1_same]
  have w8 : w.A 34 8 = 0 := by rw [hw, ys1_same]
  have Tw : yTk w n B (ysk n B 0) := yTk_35 Tq Fw (fun a (h : a = 34) => by omega)
  have H := m_13 (d := d + 6) (n := n) (B := B) (dep := 0) (m_14K (d := d) 3 (Nat.le_refl _)) (fun q c T q' c' T' h1 h2 h3 => ⟨(ycmK_ok 3 q c T q' c' T' h1 h2 h3).1, (ycmK_ok 3 q c T q' c' T' h1 h2 h3).2.1⟩) (fun m q c T q' c' T' h1 h2 h3 => ⟨(yblk_ok (ins := true) 3 m q c T q' c' T' h1 h2 h3).1.2, (yblk_ok (ins := true) 3 m q c T q' c' T' h1 h2 h3).2.1⟩) w (ysk n B 0) 0 yT0 Tw w6 (by decide)
  have start : ∀ Q, Cl (d + 14) 12 [.ref 34] (yemb t) Q ↔ Cl (d + 13) 13 [.ref 34, .int (yI 0)] (yemb w) (Gk (d + 14) 12 11 [some (.ref 34)] [] Q) := by
    intro Q
    rw [hw]
    show G (d + 14) 12 0 [some (.ref 34)] [] (yemb t) Q ↔ _
    simp only [s_12_0, s_12_1, s_12_2, s_12_3, s_12_4, s_12_5, s_12_6, s_12_7, s_12_8, s_12_9, s_12_10, s_12_11, s_12_13, s_12_14, s_12_15, s_12_16, s_12_17, s_12_18, s_12_19, s_12_20, yO_34, Gk_v, Gk_n, xcat_nil, xcat_i, xcat_r, xcat_l, xcat_d, Nat.zero_le, Nat.reduceAdd, Nat.reduceLeDiff, true_and, and_true, ykl_i, ykl_r, ykl_n, ykl_l]
    exact Iff.rfl
  rw [← yrun_eq]
  unfold yrunc
  rcases hr : ycms n B (ycmK n B 3) true n (ysk n B 0) 0 yT0 with ⟨e, a⟩ | ⟨q', c', T'⟩
  · rw [hr] at H
    obtain ⟨u, hu, x8, x9, xe⟩ := H
    refine ⟨u, fun Q => ?_, ⟨x8, x9⟩, fun j hj => by rw [xe.1 j hj, Fw.A (by decide)], Fw.trans xe.2.2 (fun a h => by omega)⟩
    refine (start Q).trans ((hu _).trans ?_)
    simp only [s_12_0, s_12_1, s_12_2, s_12_3, s_12_4, s_12_5, s_12_6, s_12_7, s_12_8, s_12_9, s_12_10, s_12_11, s_12_12, s_12_13, s_12_14, s_12_15, s_12_16, s_12_17, s_12_18, s_12_19, s_12_20, if_true, ybo_0, Gk_v, Gk_n, xcat_nil, xcat_i, xcat_r, xcat_l, xcat_d, Nat.zero_le, Nat.reduceAdd, Nat.reduceLeDiff, true_and, and_true, ykl_i, ykl_r, ykl_n, ykl_l]
  · rw [hr] at H
    obtain ⟨u, hu, Tu, u6, Gu, Ku⟩ := H
    have c10 : ¬ (1 : Int32) = 0 := by decide
    have g86 := m_86 (d := d + 11) Tu
    show match (if n ≤ q' then .inr (q', (c', T')) else .inl (-2, q') : yPg) with
      | .inr (_, (c', T')) => _
      | .inl (e, a) => _
    by_cases hn : n ≤ q'
    · rw [if_pos hn]
      rw [if_pos hn, if_pos hn] at g86
      refine ⟨u, fun Q => ?_, ⟨⟨u6, by rw [Ku.2.1 7 (by decide)]; exact w7, by rw [Ku.2.1 8 (by decide)]; exact w8⟩, Gu⟩, fun j hj => by rw [Ku.1 j hj, Fw.A (by decide)], Fw.trans Ku.2.2.2.2 (fun a h => by omega)⟩
      refine (start Q).trans ((hu _).trans ?_)
      simp only [s_12_0, s_12_1, s_12_2, s_12_3, s_12_4, s_12_5, s_12_6, s_12_7, s_12_8, s_12_9, s_12_10, s_12_11, s_12_12, s_12_13, s_12_14, s_12_15, s_12_16, s_12_17, s_12_18, s_12_19, s_12_20, yO_34, yO_1, c10, if_false, g86, ybo_1, Gk_v, Gk_n, xcat_nil, xcat_i, xcat_r, xcat_l, xcat_d, Nat.zero_le, Nat.reduceAdd, Nat.reduceLeDiff, true_and, and_true, ykl_i, ykl_r, ykl_n, ykl_l]
    · rw [if_neg hn]
      rw [if_neg hn, if_neg hn] at g86
      refine ⟨_, fun Q => ?_, ⟨yrf_8, yrf_9⟩, fun j hj => by rw [yrf_j (by omega) (by omega), Ku.1 j (by omega), Fw.A (by decide)], (Fw.trans Ku.2.2.2.2 (P'' := fun a => a = 1 ∨ (34 ≤ a ∧ a ≤ 37)) (fun a h => by omega)).trans yrf_fr (fun a h => by omega)⟩
      refine (start Q).trans ((hu _).trans ?_)
      simp only [s_12_0, s_12_1, s_12_2, s_12_3, s_12_4, s_12_5, s_12_6, s_12_7, s_12_8, s_12_9, s_12_10, s_12_11, s_12_12, s_12_13, s_12_14, s_12_15, s_12_16, s_12_17, s_12_18, s_12_19, s_12_20, yO_34, yO_1, c10, if_false, if_true, g86, ybo_0, Gk_v, Gk_n, xcat_nil, xcat_i, xcat_r, xcat_l, xcat_d, Nat.zero_le, Nat.reduceAdd, Nat.reduceLeDiff, true_and, and_true, ykl_i, ykl_r, ykl_n, ykl_l]
end

/-! ===== the model's setups: fill ===== -/
section
variable {d : Nat} {t : yT} {n : Nat} {B : Nat → Nat} {m q : Nat} {U : yU}
theorem l_147e {w : yT} {f p r g b i : Int32} (h5 : ¬ w.A 160 5 = 0) : Ga (d + 3) 147 37 [some (.ref 160), some (.int f), some (.int p), some (.int r), some (.int g), some (.int b), some (.int i)] [] (yemb w) (.inl none) (yemb w) := by
  intro Q
  have g132 := w_132n (d := d + 2) h5
  rw [s_147_37]
  by_cases h : p < i
  · simp only [s_147_0, s_147_1, s_147_2, s_147_3, s_147_4, s_147_5, s_147_6, s_147_7, s_147_8, s_147_9, s_147_10, s_147_11, s_147_12, s_147_13, s_147_14, s_147_15, s_147_16, s_147_17, s_147_18, s_147_19, s_147_20, s_147_21, s_147_22, s_147_23, s_147_24, s_147_25, s_147_26, s_147_27, s_147_28, s_147_29, s_147_30, s_147_31, s_147_32, s_147_33, s_147_34, s_147_35, s_147_36, s_147_38, s_147_39, s_147_40, s_147_41, s_147_42, s_147_43, s_147_44, s_147_45, s_147_46, s_147_47, s_147_48, s_147_49, s_147_50, s_147_51, s_147_52, s_147_53, s_147_54, s_147_55, s_147_56, h, if_true, Gk_v, Gk_n, xcat_nil, xcat_i, xcat_r, xcat_l, xcat_d, Nat.zero_le, Nat.reduceAdd, Nat.reduceLeDiff, true_and, and_true, ykl_i, ykl_r, ykl_n, ykl_l]
  · simp only [s_147_0, s_147_1, s_147_2, s_147_3, s_147_4, s_147_5, s_147_6, s_147_7, s_147_8, s_147_9, s_147_10, s_147_11, s_147_12, s_147_13, s_147_14, s_147_15, s_147_16, s_147_17, s_147_18, s_147_19, s_147_20, s_147_21, s_147_22, s_147_23, s_147_24, s_147_25, s_147_26, s_147_27, s_147_28, s_147_29, s_147_30, s_147_31, s_147_32, s_147_33, s_147_34, s_147_35, s_147_36, s_147_38, s_147_39, s_147_40, s_147_41, s_147_42, s_147_43, s_147_44, s_147_45, s_147_46, s_147_47, s_147_48, s_147_49, s_147_50, s_147_51, s_147_52, s_147_53, s_147_54, s_147_55, s_147_56, yO_160, h, if_false, g132, if_true, Gk_v, Gk_n, xcat_nil, xcat_i, xcat_r, xcat_l, xcat_d, Nat.zero_le, Nat.reduceAdd, Nat.reduceLeDiff, true_and, and_true, ykl_i, ykl_r, ykl_n, ykl_l]
theorem l_147 {f : Int32} {p r g b : Nat} (hp : p < 40) : ∀ m i a (t : yT) (D : yD), i + m = p + 1 → yM (t.A 163) D → t.A 160 5 = 0 → ∃ u, Ga (d + 3) 147 37 [some (.ref 160), some (.int f), some (.int (yI p)), some (.int (yI r)), some (.int (yI g)), some (.int (yI b)), some (.int (yI i))] [] (yemb t) (.inl none) (yemb u) ∧ (yM (u.A 163) (ypt (yI (65536 * r + 256 * g + b)) m i a D).2 ∧ yFr (fun a => a = 163) t u) := by
  intro m
  induction m with
  | zero =>
    intro i a t D hi M h5
    have c1 : yI p < yI i := (yI_lt (by omega) (by omega)).mpr (by omega)
    refine ⟨t, fun Q => ?_, M, yFr.rfl'⟩
    rw [s_147_37]
    simp only [s_147_0, s_147_1, s_147_2, s_147_3, s_147_4, s_147_5, s_147_6, s_147_7, s_147_8, s_147_9, s_147_10, s_147_11, s_147_12, s_147_13, s_147_14, s_147_15, s_147_16, s_147_17, s_147_18, s_147_19, s_147_20, s_147_21, s_147_22, s_147_23, s_147_24, s_147_25, s_147_26, s_147_27, s_147_28, s_147_29, s_147_30, s_147_31, s_147_32, s_147_33, s_147_34, s_147_35, s_147_36, s_147_38, s_147_39, s_147_40, s_147_41, s_147_42, s_147_43, s_147_44, s_147_45, s_147_46, s_147_47, s_147_48, s_147_49, s_147_50, s_147_51, s_147_52, s_147_53, s_147_54, s_147_55, s_147_56, c1, if_true, Gk_v, Gk_n, xcat_nil, xcat_i, xcat_r, xcat_l, xcat_d, Nat.zero_le, Nat.reduceAdd, Nat.reduceLeDiff, true_and, and_true, ykl_i, ykl_r, ykl_n, ykl_l]
  | succ m ih =>
    intro i a t D hi M h5
    have c1 : ¬ yI p < yI i := fun h => absurd ((yI_lt (by omega) (by omega)).mp h) (by omega)
    have g1 := m_132 (d := d + 2) (t := t)
    rw [decide_eq_true h5] at g1
    have c10 : ¬ yb true = 0 := by decide
    have ec : ycolor (yI r) (yI g) (yI b) = yI (65536 * r + 256 * g + b) := ycolor_nat
    generalize yI (65536 * r + 256 * g + b) = c at *
    have e1 : yI (8 + 8 * i) + 7 = yI (8 + 8 * i + 7) := yI_add
    have i1 : yix (yI (8 + 8 * i + 7)) 1540 := yix_I (by omega) (by omega)
    have c2 : (yI (8 + 8 * i + 7)).toNatClampNeg = 8 + 8 * i + 7 := yI_clamp (by omega)
    have h7 : yI i + 1 = yI (i + 1) := yI_add
    have M1 : yM ((t.s1 163 (8 + 8 * i + 7) c).A 163) (D.sfm (upd D.fm i c)) := by
      rw [ys1_upd]
      exact ⟨yDok_sfm M.ok, yN_sfm M.v (by omega)⟩
    have h51 : (t.s1 163 (8 + 8 * i + 7) c).A 160 5 = 0 := by
      rw [ys1_ne (by decide)]
      exact h5
    obtain ⟨u, hu, Mu, Fu⟩ := ih (i + 1) (if D.fm i = c then a else a + 1) (t.s1 163 (8 + 8 * i + 7) c) (D.sfm (upd D.fm i c)) (by omega) M1 h51
    refine ⟨u, fun Q => ?_, Mu, (yFr_s1 (P := fun a => a = 163) rfl).trans Fu (fun a h => h.elim id id)⟩
    have hu' := hu Q
    rw [s_147_37]
    simp only [s_147_0, s_147_1, s_147_2, s_147_3, s_147_4, s_147_5, s_147_6, s_147_7, s_147_8, s_147_9, s_147_10, s_147_11, s_147_12, s_147_13, s_147_14, s_147_15, s_147_16, s_147_17, s_147_18, s_147_19, s_147_20, s_147_21, s_147_22, s_147_23, s_147_24, s_147_25, s_147_26, s_147_27, s_147_28, s_147_29, s_147_30, s_147_31, s_147_32, s_147_33, s_147_34, s_147_35, s_147_36, s_147_38, s_147_39, s_147_40, s_147_41, s_147_42, s_147_43, s_147_44, s_147_45, s_147_46, s_147_47, s_147_48, s_147_49, s_147_50, s_147_51, s_147_52, s_147_53, s_147_54, s_147_55, s_147_56, yO_160, yA_163, yn_163, c1, if_false, g1, c10, m_160, m_146, ec, e1, i1, c2, h7, Gk_v, Gk_n, xcat_nil, xcat_i, xcat_r, xcat_l, xcat_d, Nat.zero_le, Nat.reduceAdd, Nat.reduceLeDiff, true_and, and_true, ykl_i, ykl_r, ykl_n, ykl_l]
    exact hu'
theorem yrch3 {q : Nat} : yrch n B 3 q 0 = if ynum n B q 0 255 = true then (if ynum n B (ynq n B q) 0 255 = true then (if ynum n B (ynq n B (ynq n B q)) 0 255 = true then .inr (ynq n B (ynq n B (ynq n B q)), 65536 * ynv n B q + 256 * ynv n B (ynq n B q) + ynv n B (ynq n B (ynq n B q))) else .inl (yne n B (ynq n B (ynq n B q)), ynq n B (ynq n B q))) else .inl (yne n B (ynq n B q), ynq n B q)) else .inl (yne n B q, q) := by
  rw [yrch, yrch, yrch, yrch]
  rw [show 256 * (256 * (256 * 0 + ynv n B q) + ynv n B (ynq n B q)) + ynv n B (ynq n B (ynq n B q)) = 65536 * ynv n B q + 256 * ynv n B (ynq n B q) + ynv n B (ynq n B (ynq n B q)) by omega]
theorem m_147 (K : yUk U) (M : yMs t n B m U) : yRm (fun u => Ra (d + 3) 147 [.ref 160] (yemb t) (.inl none) (yemb u)) t n B (yrfill n B (ysk n B m) U) := by
  have hn1 := K.1.n1
  have hn40 := K.1.n40
  have en : yI U.1.n - 1 = yI (U.1.n - 1) := yI_sub1 hn1
  have i0 : yix 0 1540 := yix_I (n := 0) (by omega) (by omega)
  have c00 : (0 : Int32).toNatClampNeg = 0 := rfl
  have hM := M.2.2.2.2.2.1
  unfold yrfill
  cases h1 : ynum n B (ysk n B m) 0 (U.1.n - 1)
  · rw [if_neg (by decide)]
    obtain ⟨u, hu, E, Ku⟩ := w_137f (d := d) M (lo := 0) (hi := U.1.n - 1) (by decide) (by omega) h1
    have hu' : ∀ Q', Cl (d + 2) 137 [.ref 160, .int 0, .int (yI (U.1.n - 1))] (yemb t) Q' ↔ Q' (.inl (some (.int 0))) (yemb u) := hu
    have g137 := fun (lo hi : Int32) => m_137n (d := d) E.1 (lo := lo) (hi := hi)
    refine ⟨u, fun Q => ?_, E, Ku⟩
    have ge := l_147e (d := d) (f := 0) (p := 0) (r := 0) (g := 0) (b := 0) (i := 0) E.1 Q
    show G (d + 3) 147 0 [some (.ref 160), none, none, none, none, none, none] [] (yemb t) Q ↔ _
    simp only [s_147_0, s_147_1, s_147_2, s_147_3, s_147_4, s_147_5, s_147_6, s_147_7, s_147_8, s_147_9, s_147_10, s_147_11, s_147_12, s_147_13, s_147_14, s_147_15, s_147_16, s_147_17, s_147_18, s_147_19, s_147_20, s_147_21, s_147_22, s_147_23, s_147_24, s_147_25, s_147_26, s_147_27, s_147_28, s_147_29, s_147_30, s_147_31, s_147_32, s_147_33, s_147_34, s_147_35, s_147_36, s_147_38, s_147_39, s_147_40, s_147_41, s_147_42, s_147_43, s_147_44, s_147_45, s_147_46, s_147_47, s_147_48, s_147_49, s_147_50, s_147_51, s_147_52, s_147_53, s_147_54, s_147_55, s_147_56, yO_160, yA_163, yn_163, i0, c00, hM.n, en, hu', g137, Gk_v, Gk_n, xcat_nil, xcat_i, xcat_r, xcat_l, xcat_d, Nat.zero_le, Nat.reduceAdd, Nat.reduceLeDiff, true_and, and_true, ykl_i, ykl_r, ykl_n, ykl_l]
    exact ge
  · rw [if_pos rfl]
    obtain ⟨u1, hu1, M1, -, K1⟩ := w_137 (d := d) M (lo := 0) (hi := U.1.n - 1) (by decide) (by omega) h1
    have hu1' : ∀ Q', Cl (d + 2) 137 [.ref 160, .int 0, .int (yI (U.1.n - 1))] (yemb t) Q' ↔ Q' _ (yemb u1) := hu1
    have hv := ynv_lt h1
    have hM1 := M1.2.2.2.2.2.1
    have hq1 : ysk n B (yw ydg B (n - ysk n B m) (ysk n B m)) = ynq n B (ysk n B m) := rfl
    rw [← hq1]
    generalize ynv n B (ysk n B m) = f at *
    generalize yw ydg B (n - ysk n B m) (ysk n B m) = m1 at *
    cases h2 : ynum n B (ysk n B m1) f (U.1.n - 1)
    · rw [if_neg (by decide)]
      obtain ⟨u, hu, E, Ku⟩ := w_137f (d := d) M1 (lo := f) (hi := U.1.n - 1) (by omega) (by omega) h2
      have g137 := fun (lo hi : Int32) => m_137n (d := d) E.1 (lo := lo) (hi := hi)
      refine ⟨u, fun Q => ?_, E, yKn_tr K1 Ku⟩
      have ge := l_147e (d := d) (f := yI f) (p := 0) (r := 0) (g := 0) (b := 0) (i := yI f) E.1 Q
      show G (d + 3) 147 0 [some (.ref 160), none, none, none, none, none, none] [] (yemb t) Q ↔ _
      simp only [s_147_0, s_147_1, s_147_2, s_147_3, s_147_4, s_147_5, s_147_6, s_147_7, s_147_8, s_147_9, s_147_10, s_147_11, s_147_12, s_147_13, s_147_14, s_147_15, s_147_16, s_147_17, s_147_18, s_147_19, s_147_20, s_147_21, s_147_22, s_147_23, s_147_24, s_147_25, s_147_26, s_147_27, s_147_28, s_147_29, s_147_30, s_147_31, s_147_32, s_147_33, s_147_34, s_147_35, s_147_36, s_147_38, s_147_39, s_147_40, s_147_41, s_147_42, s_147_43, s_147_44, s_147_45, s_147_46, s_147_47, s_147_48, s_147_49, s_147_50, s_147_51, s_147_52, s_147_53, s_147_54, s_147_55, s_147_56, yO_160, yA_163, yn_163, i0, c00, hM.n, en, hu1', hM1.n, hu, g137, Gk_v, Gk_n, xcat_nil, xcat_i, xcat_r, xcat_l, xcat_d, Nat.zero_le, Nat.reduceAdd, Nat.reduceLeDiff, true_and, and_true, ykl_i, ykl_r, ykl_n, ykl_l]
      exact ge
    · rw [if_pos rfl]
      obtain ⟨u2, hu2, M2, -, K2⟩ := w_137 (d := d) M1 (lo := f) (hi := U.1.n - 1) (by omega) (by omega) h2
      have hv2 := ynv_lt h2
      have K12 := yKn_tr K1 K2
      have hq2 : ysk n B (yw ydg B (n - ysk n B m1) (ysk n B m1)) = ynq n B (ysk n B m1) := rfl
      rw [← hq2, yrch3]
      generalize ynv n B (ysk n B m1) = p at *
      generalize yw ydg B (n - ysk n B m1) (ysk n B m1) = m2 at *
      cases h3 : ynum n B (ysk n B m2) 0 255
      · rw [if_neg (by decide)]
        obtain ⟨u, hu, E, Ku⟩ := w_137f (d := d) M2 (lo := 0) (hi := 255) (by decide) (by decide) h3
        have hu' : ∀ Q', Cl (d + 2) 137 [.ref 160, .int 0, .int 255] (yemb u2) Q' ↔ Q' (.inl (some (.int 0))) (yemb u) := hu
        have g137 := fun (lo hi : Int32) => m_137n (d := d) E.1 (lo := lo) (hi := hi)
        refine ⟨u, fun Q => ?_, E, yKn_tr K12 Ku⟩
        have ge := l_147e (d := d) (f := yI f) (p := yI p) (r := 0) (g := 0) (b := 0) (i := yI f) E.1 Q
        show G (d + 3) 147 0 [some (.ref 160), none, none, none, none, none, none] [] (yemb t) Q ↔ _
        simp only [s_147_0, s_147_1, s_147_2, s_147_3, s_147_4, s_147_5, s_147_6, s_147_7, s_147_8, s_147_9, s_147_10, s_147_11, s_147_12, s_147_13, s_147_14, s_147_15, s_147_16, s_147_17, s_147_18, s_147_19, s_147_20, s_147_21, s_147_22, s_147_23, s_147_24, s_147_25, s_147_26, s_147_27, s_147_28, s_147_29, s_147_30, s_147_31, s_147_32, s_147_33, s_147_34, s_147_35, s_147_36, s_147_38, s_147_39, s_147_40, s_147_41, s_147_42, s_147_43, s_147_44, s_147_45, s_147_46, s_147_47, s_147_48, s_147_49, s_147_50, s_147_51, s_147_52, s_147_53, s_147_54, s_147_55, s_147_56, yO_160, yA_163, yn_163, i0, c00, hM.n, en, hu1', hM1.n, hu2, hu', g137, Gk_v, Gk_n, xcat_nil, xcat_i, xcat_r, xcat_l, xcat_d, Nat.zero_le, Nat.reduceAdd, Nat.reduceLeDiff, true_and, and_true, ykl_i, ykl_r, ykl_n, ykl_l]
        exact ge
      · rw [if_pos rfl]
        obtain ⟨u3, hu3, M3, -, K3⟩ := w_137 (d := d) M2 (lo := 0) (hi := 255) (by decide) (by decide) h3
        have hu3' : ∀ Q', Cl (d + 2) 137 [.ref 160, .int 0, .int 255] (yemb u2) Q' ↔ Q' _ (yemb u3) := hu3
        have hv3 := ynv_lt h3
        have K13 := yKn_tr K12 K3
        have hq3 : ysk n B (yw ydg B (n - ysk n B m2) (ysk n B m2)) = ynq n B (ysk n B m2) := rfl
        rw [← hq3]
        generalize ynv n B (ysk n B m2) = r at *
        generalize yw ydg B (n - ysk n B m2) (ysk n B m2) = m3 at *
        cases h4 : ynum n B (ysk n B m3) 0 255
        · rw [if_neg (by decide)]
          obtain ⟨u, hu, E, Ku⟩ := w_137f (d := d) M3 (lo := 0) (hi := 255) (by decide) (by decide) h4
          have hu' : ∀ Q', Cl (d + 2) 137 [.ref 160, .int 0, .int 255] (yemb u3) Q' ↔ Q' (.inl (some (.int 0))) (yemb u) := hu
          have g137 := fun (lo hi : Int32) => m_137n (d := d) E.1 (lo := lo) (hi := hi)
          refine ⟨u, fun Q => ?_, E, yKn_tr K13 Ku⟩
          have ge := l_147e (d := d) (f := yI f) (p := yI p) (r := yI r) (g := 0) (b := 0) (i := yI f) E.1 Q
          show G (d + 3) 147 0 [some (.ref 160), none, none, none, none, none, none] [] (yemb t) Q ↔ _
          simp only [s_147_0, s_147_1, s_147_2, s_147_3, s_147_4, s_147_5, s_147_6, s_147_7, s_147_8, s_147_9, s_147_10, s_147_11, s_147_12, s_147_13, s_147_14, s_147_15, s_147_16, s_147_17, s_147_18, s_147_19, s_147_20, s_147_21, s_147_22, s_147_23, s_147_24, s_147_25, s_147_26, s_147_27, s_147_28, s_147_29, s_147_30, s_147_31, s_147_32, s_147_33, s_147_34, s_147_35, s_147_36, s_147_38, s_147_39, s_147_40, s_147_41, s_147_42, s_147_43, s_147_44, s_147_45, s_147_46, s_147_47, s_147_48, s_147_49, s_147_50, s_147_51, s_147_52, s_147_53, s_147_54, s_147_55, s_147_56, yO_160, yA_163, yn_163, i0, c00, hM.n, en, hu1', hM1.n, hu2, hu3', hu', g137, Gk_v, Gk_n, xcat_nil, xcat_i, xcat_r, xcat_l, xcat_d, Nat.zero_le, Nat.reduceAdd, Nat.reduceLeDiff, true_and, and_true, ykl_i, ykl_r, ykl_n, ykl_l]
          exact ge
        · rw [if_pos rfl]
          obtain ⟨u4, hu4, M4, -, K4⟩ := w_137 (d := d) M3 (lo := 0) (hi := 255) (by decide) (by decide) h4
          have hu4' : ∀ Q', Cl (d + 2) 137 [.ref 160, .int 0, .int 255] (yemb u3) Q' ↔ Q' _ (yemb u4) := hu4
          have hv4 := ynv_lt h4
          have K14 := yKn_tr K13 K4
          have hq4 : ysk n B (yw ydg B (n - ysk n B m3) (ysk n B m3)) = ynq n B (ysk n B m3) := rfl
          rw [← hq4]
          generalize ynv n B (ysk n B m3) = g at *
          generalize yw ydg B (n - ysk n B m3) (ysk n B m3) = m4 at *
          cases h5 : ynum n B (ysk n B m4) 0 255
          · rw [if_neg (by decide)]
            obtain ⟨u, hu, E, Ku⟩ := w_137f (d := d) M4 (lo := 0) (hi := 255) (by decide) (by decide) h5
            have hu' : ∀ Q', Cl (d + 2) 137 [.ref 160, .int 0, .int 255] (yemb u4) Q' ↔ Q' (.inl (some (.int 0))) (yemb u) := hu
            refine ⟨u, fun Q => ?_, E, yKn_tr K14 Ku⟩
            have ge := l_147e (d := d) (f := yI f) (p := yI p) (r := yI r) (g := yI g) (b := 0) (i := yI f) E.1 Q
            show G (d + 3) 147 0 [some (.ref 160), none, none, none, none, none, none] [] (yemb t) Q ↔ _
            simp only [s_147_0, s_147_1, s_147_2, s_147_3, s_147_4, s_147_5, s_147_6, s_147_7, s_147_8, s_147_9, s_147_10, s_147_11, s_147_12, s_147_13, s_147_14, s_147_15, s_147_16, s_147_17, s_147_18, s_147_19, s_147_20, s_147_21, s_147_22, s_147_23, s_147_24, s_147_25, s_147_26, s_147_27, s_147_28, s_147_29, s_147_30, s_147_31, s_147_32, s_147_33, s_147_34, s_147_35, s_147_36, s_147_38, s_147_39, s_147_40, s_147_41, s_147_42, s_147_43, s_147_44, s_147_45, s_147_46, s_147_47, s_147_48, s_147_49, s_147_50, s_147_51, s_147_52, s_147_53, s_147_54, s_147_55, s_147_56, yO_160, yA_163, yn_163, i0, c00, hM.n, en, hu1', hM1.n, hu2, hu3', hu4', hu', Gk_v, Gk_n, xcat_nil, xcat_i, xcat_r, xcat_l, xcat_d, Nat.zero_le, Nat.reduceAdd, Nat.reduceLeDiff, true_and, and_true, ykl_i, ykl_r, ykl_n, ykl_l]
            exact ge
          · rw [if_pos rfl]
            obtain ⟨u5, hu5, M5, -, K5⟩ := w_137 (d := d) M4 (lo := 0) (hi := 255) (by decide) (by decide) h5
            have hu5' : ∀ Q', Cl (d + 2) 137 [.ref 160, .int 0, .int 255] (yemb u4) Q' ↔ Q' _ (yemb u5) := hu5
            have K15 := yKn_tr K14 K5
            generalize ynv n B (ysk n B m4) = b at *
            obtain ⟨u6, hu6, M6, F6⟩ := l_147 (d := d) (f := yI f) (p := p) (r := r) (g := g) (b := b) (by omega) (p + 1 - f) f 0 u5 U.1 (by omega) M5.2.2.2.2.2.1 M5.2.2.2.1.1
            obtain ⟨F, hF⟩ := ypt_D (c := yI (65536 * r + 256 * g + b)) (p + 1 - f) f 0 U.1
            have M7 : yMs u6 n B (yw ydg B (n - ysk n B m4) (ysk n B m4)) (ypaint U.1 f p (65536 * r + 256 * g + b), U.2) := yMs_D M5 M6 F6 (by unfold ypaint; rw [hF]; rfl)
            refine ⟨u6, _, fun Q => ?_, M7, rfl, yKn_tr K15 (yKn_f3 F6)⟩
            have hu6' := hu6 Q
            show G (d + 3) 147 0 [some (.ref 160), none, none, none, none, none, none] [] (yemb t) Q ↔ _
            simp only [s_147_0, s_147_1, s_147_2, s_147_3, s_147_4, s_147_5, s_147_6, s_147_7, s_147_8, s_147_9, s_147_10, s_147_11, s_147_12, s_147_13, s_147_14, s_147_15, s_147_16, s_147_17, s_147_18, s_147_19, s_147_20, s_147_21, s_147_22, s_147_23, s_147_24, s_147_25, s_147_26, s_147_27, s_147_28, s_147_29, s_147_30, s_147_31, s_147_32, s_147_33, s_147_34, s_147_35, s_147_36, s_147_38, s_147_39, s_147_40, s_147_41, s_147_42, s_147_43, s_147_44, s_147_45, s_147_46, s_147_47, s_147_48, s_147_49, s_147_50, s_147_51, s_147_52, s_147_53, s_147_54, s_147_55, s_147_56, yO_160, yA_163, yn_163, i0, c00, hM.n, en, hu1', hM1.n, hu2, hu3', hu4', hu5', Gk_v, Gk_n, xcat_nil, xcat_i, xcat_r, xcat_l, xcat_d, Nat.zero_le, Nat.reduceAdd, Nat.reduceLeDiff, true_and, and_true, ykl_i, ykl_r, ykl_n, ykl_l]
            exact hu6'
end

/-! ===== the model's leaves whole ===== -/
section
variable {d : Nat} {n : Nat} {B : Nat → Nat}
theorem m_139l {t : yT} {m k : Nat} {l : List Int32} (M : yMr t n B m l k) (hl : l.length ≤ ysk n B m) (h40 : yat n B (ysk n B m) 40 = false) : yMz (fun u => Ra (d + 5) 139 [.ref 160] (yemb t) (.inl none) (yemb u)) t n B k (yleaf n B (ysk n B m) l) := by
  have h600 := M.1.1
  have hs := ysk_le (n := n) (B := B) M.2.1
  obtain ⟨v, hv, v4, vj, Fv⟩ := m_131 (d := d + 3) M.1 M.2.1 M.2.2.1
  obtain ⟨Mv, Kv⟩ := yMr_4 M hs.2 v4 vj Fv
  have hid := ysk_idem (n := n) (B := B) M.2.1
  have g := m_132 (d := d + 4) (t := t)
  rw [decide_eq_true M.2.2.2.1] at g
  generalize ysk n B m = q at *
  have hne : ¬ ybt n B q = 40 := fun h' => by
    have h2 := (ybt_is (yYt_b M.1) (c := 40) (by decide)).mp h'
    rw [show yat n B q 40 = true from decide_eq_true h2] at h40
    cases h40
  have g134 := fun (t' : yT) => m_134 (d := d + 3) (x := ybt n B q) (σ := yemb t')
  rw [ybt_dg (yYt_b M.1)] at g134
  have cm1 : ¬ (0 : Int32) ≤ -1 := by decide
  have num : ∀ (w : yT) (m' : Nat), yMr w n B m' l k → ysk n B m' = q → yKj t w → (∀ Q, G (d + 5) 139 0 [some (.ref 160), none, none, none] [] (yemb t) Q ↔ G (d + 5) 139 62 [some (.ref 160), some (.int (ybt n B q)), some (.int (-1)), none] [] (yemb w) Q) → yMz (fun u => Ra (d + 5) 139 [.ref 160] (yemb t) (.inl none) (yemb u)) t n B k (if ynum n B q 0 9999 = true then .inr (ysk n B (yw ydg B (n - q) q), l ++ [yI (yvm B (n - q) q 0)]) else .inl (if q < n ∧ ydg (B q) = true then -3 else -2, q)) := by
    intro w m' Mw hq Kw start
    subst hq
    cases hx : ynum n B (ysk n B m') 0 9999
    · obtain ⟨u, hu, u5, u6, un, Ku⟩ := ynum_Mf (d := d + 2) Mw (lo := 0) (hi := 9999) (by decide) (by decide) hx
      have hu' : ∀ Q', Cl (d + 4) 137 [.ref 160, .int 0, .int 9999] (yemb w) Q' ↔ Q' _ _ := hu
      have ge := fun (c : Int32) => m_138n (d := d + 3) un (c := c)
      rw [if_neg (by decide)]
      refine ⟨u, fun Q => ?_, un, u5, u6, yKj_tr Kw Ku⟩
      show G (d + 5) 139 0 [some (.ref 160), none, none, none] [] (yemb t) Q ↔ _
      rw [start Q]
      simp only [s_139_0, s_139_1, s_139_2, s_139_3, s_139_4, s_139_5, s_139_6, s_139_7, s_139_8, s_139_9, s_139_10, s_139_11, s_139_12, s_139_13, s_139_14, s_139_15, s_139_16, s_139_17, s_139_18, s_139_19, s_139_20, s_139_20i, s_139_21, s_139_22, s_139_23, s_139_24, s_139_25, s_139_26, s_139_26i, s_139_27, s_139_28, s_139_29, s_139_30, s_139_31, s_139_32, s_139_33, s_139_34, s_139_35, s_139_36, s_139_37, s_139_37i, s_139_38, s_139_39, s_139_40, s_139_41, s_139_42, s_139_43, s_139_44, s_139_45, s_139_46, s_139_47, s_139_48, s_139_49, s_139_50, s_139_51, s_139_52, s_139_53, s_139_54, s_139_55, s_139_56, s_139_57, s_139_58, s_139_59, s_139_60, s_139_61, s_139_62, s_139_63, s_139_64, s_139_65, s_139_66, s_139_67, s_139_68, s_139_69, s_139_70, s_139_71, s_139_72, s_139_73, s_139_74, s_139_75, s_139_76, s_139_77, s_139_78, s_139_79, s_139_80, s_139_81, yO_160, cm1, if_false, hu', ge, Gk_v, Gk_n, xcat_nil, xcat_i, xcat_r, xcat_l, xcat_d, Nat.zero_le, Nat.reduceAdd, Nat.reduceLeDiff, true_and, and_true, ykl_i, ykl_r, ykl_n, ykl_l]
    · obtain ⟨u, hu, Mu, -, Ku⟩ := ynum_M (d := d + 2) Mw (lo := 0) (hi := 9999) (by decide) (by decide) hx
      have hu' : ∀ Q', Cl (d + 4) 137 [.ref 160, .int 0, .int 9999] (yemb w) Q' ↔ Q' _ _ := hu
      obtain ⟨hlt, hv1, hv2⟩ := ynum_lt hx
      generalize yvm B (n - ysk n B m') (ysk n B m') 0 = x at *
      have hx0 : (0 : Int32) ≤ yI x := Int32.not_lt.mp (yI_nneg (by omega))
      have hx2 : (-2 : Int32) ≤ yI x := Int32.le_trans (by decide) hx0
      obtain ⟨u1, u2, hu1, hu2, J, hS, F⟩ := ypush2 (d := d + 3) Mu.2.2.2.1 Mu.2.2.2.2.2.1 (by omega) hx2
      obtain ⟨M2, K2⟩ := yMr_p Mu J hS F
      have e1 : ycode (yI x) = 0 := by rw [ycode, if_pos hx0]
      have e2 : ycval (yI x) = yI x := by rw [ycval, if_pos hx0]
      rw [e1] at hu1
      rw [e2] at hu2
      rw [if_pos rfl]
      refine ⟨u2, _, fun Q => ?_, M2, rfl, yKj_tr (yKj_tr Kw Ku) K2⟩
      show G (d + 5) 139 0 [some (.ref 160), none, none, none] [] (yemb t) Q ↔ _
      rw [start Q]
      simp only [s_139_0, s_139_1, s_139_2, s_139_3, s_139_4, s_139_5, s_139_6, s_139_7, s_139_8, s_139_9, s_139_10, s_139_11, s_139_12, s_139_13, s_139_14, s_139_15, s_139_16, s_139_17, s_139_18, s_139_19, s_139_20, s_139_20i, s_139_21, s_139_22, s_139_23, s_139_24, s_139_25, s_139_26, s_139_26i, s_139_27, s_139_28, s_139_29, s_139_30, s_139_31, s_139_32, s_139_33, s_139_34, s_139_35, s_139_36, s_139_37, s_139_37i, s_139_38, s_139_39, s_139_40, s_139_41, s_139_42, s_139_43, s_139_44, s_139_45, s_139_46, s_139_47, s_139_48, s_139_49, s_139_50, s_139_51, s_139_52, s_139_53, s_139_54, s_139_55, s_139_56, s_139_57, s_139_58, s_139_59, s_139_60, s_139_61, s_139_62, s_139_63, s_139_64, s_139_65, s_139_66, s_139_67, s_139_68, s_139_69, s_139_70, s_139_71, s_139_72, s_139_73, s_139_74, s_139_75, s_139_76, s_139_77, s_139_78, s_139_79, s_139_80, s_139_81, yO_160, cm1, if_false, hu', hu1, hu2, Gk_v, Gk_n, xcat_nil, xcat_i, xcat_r, xcat_l, xcat_d, Nat.zero_le, Nat.reduceAdd, Nat.reduceLeDiff, true_and, and_true, ykl_i, ykl_r, ykl_n, ykl_l]
  unfold yleaf
  cases hd : (decide (q < n) && ydg (B q))
  · rw [hd] at g134
    obtain ⟨w, hw, w4, wj, Fw⟩ := m_135 (d := d) Mv.1 (i := 13) (by decide) Mv.2.1 Mv.2.2.1 Mv.2.2.2.1
    have hw' : ∀ Q', Cl (d + 4) 135 [.ref 160, .ref 1000113] (yemb v) Q' ↔ Q' _ _ := hw
    rw [hid] at hw' w4
    cases h1 : yisw n B q 13
    · rw [h1] at hw'
      rw [h1, if_neg (by decide)] at w4
      rw [if_neg (by decide)]
      obtain ⟨Mw, Kw⟩ := yMr_4 Mv hs.2 w4 wj Fw
      obtain ⟨x, hx, x4, xj, Fx⟩ := m_135 (d := d) Mw.1 (i := 7) (by decide) Mw.2.1 Mw.2.2.1 Mw.2.2.2.1
      have hx' : ∀ Q', Cl (d + 4) 135 [.ref 160, .ref 1000107] (yemb w) Q' ↔ Q' _ _ := hx
      rw [hid] at hx' x4
      cases h2 : yisw n B q 7
      · rw [h2] at hx'
        rw [h2, if_neg (by decide)] at x4
        rw [if_neg (by decide)]
        obtain ⟨Mx, Kx⟩ := yMr_4 Mw hs.2 x4 xj Fx
        refine num x q Mx hid (yKj_tr (yKj_tr Kv Kw) Kx) (fun Q => ?_)
        simp only [s_139_0, s_139_1, s_139_2, s_139_3, s_139_4, s_139_5, s_139_6, s_139_7, s_139_8, s_139_9, s_139_10, s_139_11, s_139_12, s_139_13, s_139_14, s_139_15, s_139_16, s_139_17, s_139_18, s_139_19, s_139_20, s_139_20i, s_139_21, s_139_22, s_139_23, s_139_24, s_139_25, s_139_26, s_139_26i, s_139_27, s_139_28, s_139_29, s_139_30, s_139_31, s_139_32, s_139_33, s_139_34, s_139_35, s_139_36, s_139_37, s_139_37i, s_139_38, s_139_39, s_139_40, s_139_41, s_139_42, s_139_43, s_139_44, s_139_45, s_139_46, s_139_47, s_139_48, s_139_49, s_139_50, s_139_51, s_139_52, s_139_53, s_139_54, s_139_55, s_139_56, s_139_57, s_139_58, s_139_59, s_139_60, s_139_61, s_139_63, s_139_64, s_139_65, s_139_66, s_139_67, s_139_68, s_139_69, s_139_70, s_139_71, s_139_72, s_139_73, s_139_74, s_139_75, s_139_76, s_139_77, s_139_78, s_139_79, s_139_80, s_139_81, yO_160, g, ifbn, if_true, if_false, hv, hne, ne_eq, not_false_eq_true, g134, ifb, Bool.false_eq_true, hw', hx', Gk_v, Gk_n, xcat_nil, xcat_i, xcat_r, xcat_l, xcat_d, Nat.zero_le, Nat.reduceAdd, Nat.reduceLeDiff, true_and, and_true, ykl_i, ykl_r, ykl_n, ykl_l]
      · rw [h2] at hx'
        rw [h2, if_pos rfl] at x4
        rw [if_pos rfl]
        have hlt := yisw_lt (by decide) hs.2 h2
        have he := yisw_e (i := 7) (by decide) hs.2 h2
        have hle := yte_le (n := n) (B := B) hs.2
        obtain ⟨Mx, Kx⟩ := yMr_4 Mw (show q + ywl 7 ≤ n by omega) x4 xj Fx
        obtain ⟨u1, u2, hu1, hu2, J, hS, F⟩ := ypush2 (d := d + 3) (v := -2) Mx.2.2.2.1 Mx.2.2.2.2.2.1 (by omega) (by decide)
        obtain ⟨M2, K2⟩ := yMr_p Mx J hS F
        have e1 : ycode (-2) = 1 := by decide
        have e2 : ycval (-2) = 1 := by decide
        have c1 : (0 : Int32) ≤ 1 := by decide
        rw [e1] at hu1
        rw [e2] at hu2
        refine ⟨u2, _, fun Q => ?_, M2, rfl, yKj_tr (yKj_tr (yKj_tr Kv Kw) Kx) K2⟩
        show G (d + 5) 139 0 [some (.ref 160), none, none, none] [] (yemb t) Q ↔ _
        simp only [s_139_0, s_139_1, s_139_2, s_139_3, s_139_4, s_139_5, s_139_6, s_139_7, s_139_8, s_139_9, s_139_10, s_139_11, s_139_12, s_139_13, s_139_14, s_139_15, s_139_16, s_139_17, s_139_18, s_139_19, s_139_20, s_139_20i, s_139_21, s_139_22, s_139_23, s_139_24, s_139_25, s_139_26, s_139_26i, s_139_27, s_139_28, s_139_29, s_139_30, s_139_31, s_139_32, s_139_33, s_139_34, s_139_35, s_139_36, s_139_37, s_139_37i, s_139_38, s_139_39, s_139_40, s_139_41, s_139_42, s_139_43, s_139_44, s_139_45, s_139_46, s_139_47, s_139_48, s_139_49, s_139_50, s_139_51, s_139_52, s_139_53, s_139_54, s_139_55, s_139_56, s_139_57, s_139_58, s_139_59, s_139_60, s_139_61, s_139_62, s_139_63, s_139_64, s_139_65, s_139_66, s_139_67, s_139_68, s_139_69, s_139_70, s_139_71, s_139_72, s_139_73, s_139_74, s_139_75, s_139_76, s_139_77, s_139_78, s_139_79, s_139_80, s_139_81, yO_160, g, ifbn, if_true, if_false, hv, hne, ne_eq, not_false_eq_true, g134, ifb, Bool.false_eq_true, hw', hx', c1, hu1, hu2, Gk_v, Gk_n, xcat_nil, xcat_i, xcat_r, xcat_l, xcat_d, Nat.zero_le, Nat.reduceAdd, Nat.reduceLeDiff, true_and, and_true, ykl_i, ykl_r, ykl_n, ykl_l]
    · rw [h1] at hw'
      rw [h1, if_pos rfl] at w4
      rw [if_pos rfl]
      have hlt := yisw_lt (by decide) hs.2 h1
      have he := yisw_e (i := 13) (by decide) hs.2 h1
      have hle := yte_le (n := n) (B := B) hs.2
      obtain ⟨Mw, Kw⟩ := yMr_4 Mv (show q + ywl 13 ≤ n by omega) w4 wj Fw
      obtain ⟨u1, u2, hu1, hu2, J, hS, F⟩ := ypush2 (d := d + 3) (v := -1) Mw.2.2.2.1 Mw.2.2.2.2.2.1 (by omega) (by decide)
      obtain ⟨M2, K2⟩ := yMr_p Mw J hS F
      have e1 : ycode (-1) = 1 := by decide
      have e2 : ycval (-1) = 0 := by decide
      have c1 : (0 : Int32) ≤ 0 := by decide
      rw [e1] at hu1
      rw [e2] at hu2
      refine ⟨u2, _, fun Q => ?_, M2, rfl, yKj_tr (yKj_tr Kv Kw) K2⟩
      show G (d + 5) 139 0 [some (.ref 160), none, none, none] [] (yemb t) Q ↔ _
      simp only [s_139_0, s_139_1, s_139_2, s_139_3, s_139_4, s_139_5, s_139_6, s_139_7, s_139_8, s_139_9, s_139_10, s_139_11, s_139_12, s_139_13, s_139_14, s_139_15, s_139_16, s_139_17, s_139_18, s_139_19, s_139_20, s_139_20i, s_139_21, s_139_22, s_139_23, s_139_24, s_139_25, s_139_26, s_139_26i, s_139_27, s_139_28, s_139_29, s_139_30, s_139_31, s_139_32, s_139_33, s_139_34, s_139_35, s_139_36, s_139_37, s_139_37i, s_139_38, s_139_39, s_139_40, s_139_41, s_139_42, s_139_43, s_139_44, s_139_45, s_139_46, s_139_47, s_139_48, s_139_49, s_139_50, s_139_51, s_139_52, s_139_53, s_139_54, s_139_55, s_139_56, s_139_57, s_139_58, s_139_59, s_139_60, s_139_61, s_139_62, s_139_63, s_139_64, s_139_65, s_139_66, s_139_67, s_139_68, s_139_69, s_139_70, s_139_71, s_139_72, s_139_73, s_139_74, s_139_75, s_139_76, s_139_77, s_139_78, s_139_79, s_139_80, s_139_81, yO_160, g, ifbn, if_true, if_false, hv, hne, ne_eq, not_false_eq_true, g134, ifb, Bool.false_eq_true, hw', c1, hu1, hu2, Gk_v, Gk_n, xcat_nil, xcat_i, xcat_r, xcat_l, xcat_d, Nat.zero_le, Nat.reduceAdd, Nat.reduceLeDiff, true_and, and_true, ykl_i, ykl_r, ykl_n, ykl_l]
  · rw [hd] at g134
    rw [yisw_dg (i := 13) (by decide) hs.2 hd, yisw_dg (i := 7) (by decide) hs.2 hd, if_neg (by decide), if_neg (by decide)]
    refine num v q Mv hid Kv (fun Q => ?_)
    simp only [s_139_0, s_139_1, s_139_2, s_139_3, s_139_4, s_139_5, s_139_6, s_139_7, s_139_8, s_139_9, s_139_10, s_139_11, s_139_12, s_139_13, s_139_14, s_139_15, s_139_16, s_139_17, s_139_18, s_139_19, s_139_20, s_139_20i, s_139_21, s_139_22, s_139_23, s_139_24, s_139_25, s_139_26, s_139_26i, s_139_27, s_139_28, s_139_29, s_139_30, s_139_31, s_139_32, s_139_33, s_139_34, s_139_35, s_139_36, s_139_37, s_139_37i, s_139_38, s_139_39, s_139_40, s_139_41, s_139_42, s_139_43, s_139_44, s_139_45, s_139_46, s_139_47, s_139_48, s_139_49, s_139_50, s_139_51, s_139_52, s_139_53, s_139_54, s_139_55, s_139_56, s_139_57, s_139_58, s_139_59, s_139_60, s_139_61, s_139_63, s_139_64, s_139_65, s_139_66, s_139_67, s_139_68, s_139_69, s_139_70, s_139_71, s_139_72, s_139_73, s_139_74, s_139_75, s_139_76, s_139_77, s_139_78, s_139_79, s_139_80, s_139_81, yO_160, g, ifbn, if_true, if_false, hv, hne, ne_eq, not_false_eq_true, g134, ifb, Gk_v, Gk_n, xcat_nil, xcat_i, xcat_r, xcat_l, xcat_d, Nat.zero_le, Nat.reduceAdd, Nat.reduceLeDiff, true_and, and_true, ykl_i, ykl_r, ykl_n, ykl_l]
end

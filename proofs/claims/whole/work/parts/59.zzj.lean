/-! ===== a script is done by the model ===== -/
section
variable {d : Nat} {t : yT} {T : yTb} {cN i : Nat} {D : yD} {done dep : Nat}
theorem yPm_s8 {v : Int32} (P : yPm t T cN D done) : yPm (t.s1 160 8 v) T cN D done := ⟨by rw [ys1_ne (by decide)]; exact P.1, yGm_g P.2.1 (yKg_s (Or.inl rfl)), by rw [ys1_upd, yupd_ne (by decide)]; exact P.2.2⟩
theorem l_156c {X : yXs} (P : yQm t T cN X) (hi : i < cN) (hc : cN ≤ 60) (hK : T.1 i < 5) (hN : ∀ j, j < ynb (T.1 i) → T.2.1 i j < 10000) {l1 l5 : Option Value} {x2 : Int32} : ∃ u, ((yxc T i X).1 = 0 → Gg (d + 9) 156 49 [some (.ref 160), l1, some (.int x2), some (.int (yI i)), some (.int (yI (7 * i))), l5] [] (yemb t) 2 [some (.ref 160), l1, some (.int x2), some (.int (yI (i + 1))), some (.int (yI (7 * i))), l5] [] (yemb u))
    ∧ (((yxc T i X).1 ≠ 0 → Ga (d + 9) 156 49 [some (.ref 160), l1, some (.int x2), some (.int (yI i)), some (.int (yI (7 * i))), l5] [] (yemb t) (.inl (some (.int 0))) (yemb u)) ∧ (yQm u T cN (yxc T i X) ∧ yKg t u)) := by
  have h200 := yxc_200 (T := T) (i := i) P.2.2.1
  have h3 : (yxc T i X).1 ≤ 3 := ystop_le
  obtain ⟨s0, D, done⟩ := X
  have hd2 : done ≤ 200 := P.2.2.1
  have h24 : t.A 160 24 = yI done := P.1.2.2
  have g157 := m_157 (d := d + 5) P.1 hi hc hK hN
  -- the reason to end is put
  have start : ∀ Q, G (d + 9) 156 49 [some (.ref 160), l1, some (.int x2), some (.int (yI i)), some (.int (yI (7 * i))), l5] [] (yemb t) Q ↔ G (d + 9) 156 60 [some (.ref 160), l1, some (.int x2), some (.int (yI i)), some (.int (yI (7 * i))), l5] [] (yemb (t.s1 160 8 (yI (ystop T D done i)))) Q := by
    intro Q
    unfold ystop
    by_cases h : done = 200
    · have c1 : yI done = 200 := by rw [h]; rfl
      rw [if_pos h]
      simp only [s_156_0, s_156_1, s_156_3, s_156_4, s_156_5, s_156_6, s_156_7, s_156_8, s_156_9, s_156_10, s_156_11, s_156_12, s_156_13, s_156_14, s_156_15, s_156_16, s_156_18, s_156_19, s_156_20, s_156_21, s_156_22, s_156_23, s_156_24, s_156_25, s_156_26, s_156_27, s_156_28, s_156_29, s_156_30, s_156_31, s_156_32, s_156_33, s_156_34, s_156_35, s_156_36, s_156_37, s_156_38, s_156_39, s_156_40, s_156_41, s_156_42, s_156_43, s_156_44, s_156_45, s_156_46, s_156_47, s_156_48, s_156_49, s_156_50, s_156_51, s_156_52, s_156_53, s_156_54, s_156_55, s_156_56, s_156_57, s_156_58, s_156_59, s_156_61, s_156_62, s_156_63, s_156_64, s_156_65, s_156_66, s_156_67, s_156_68, s_156_69, s_156_69i, s_156_70, s_156_71, s_156_72, s_156_73, s_156_74, s_156_75, s_156_76, s_156_77, yO_160, h24, c1, ne_eq, not_true_eq_false, if_false, Gk_v, Gk_n, xcat_nil, xcat_i, xcat_r, xcat_l, xcat_d, Nat.zero_le, Nat.reduceAdd, Nat.reduceLeDiff, true_and, and_true, ykl_i, ykl_r, ykl_n, ykl_l]
      exact Iff.rfl
    · have c1 : ¬ yI done = 200 := fun h' => h ((yI_inj (m := 200) (by omega) (by decide)).mp h')
      rw [if_neg h]
      simp only [s_156_0, s_156_1, s_156_3, s_156_4, s_156_5, s_156_6, s_156_7, s_156_8, s_156_9, s_156_10, s_156_11, s_156_12, s_156_13, s_156_14, s_156_15, s_156_16, s_156_18, s_156_19, s_156_20, s_156_21, s_156_22, s_156_23, s_156_24, s_156_25, s_156_26, s_156_27, s_156_28, s_156_29, s_156_30, s_156_31, s_156_32, s_156_33, s_156_34, s_156_35, s_156_36, s_156_37, s_156_38, s_156_39, s_156_40, s_156_41, s_156_42, s_156_43, s_156_44, s_156_45, s_156_46, s_156_47, s_156_48, s_156_49, s_156_50, s_156_51, s_156_52, s_156_53, s_156_54, s_156_55, s_156_56, s_156_57, s_156_58, s_156_59, s_156_61, s_156_62, s_156_63, s_156_64, s_156_65, s_156_66, s_156_67, s_156_68, s_156_69, s_156_69i, s_156_70, s_156_71, s_156_72, s_156_73, s_156_74, s_156_75, s_156_76, s_156_77, yO_160, h24, c1, ne_eq, not_false_eq_true, if_true, g157, Gk_v, Gk_n, xcat_nil, xcat_i, xcat_r, xcat_l, xcat_d, Nat.zero_le, Nat.reduceAdd, Nat.reduceLeDiff, true_and, and_true, ykl_i, ykl_r, ykl_n, ykl_l]
  have P1 := yPm_s8 (v := yI (ystop T D done i)) P.1
  have K1 : yKg t (t.s1 160 8 (yI (ystop T D done i))) := yKg_s (Or.inl rfl)
  have e8 : (t.s1 160 8 (yI (ystop T D done i))).A 160 8 = yI (ystop T D done i) := ys1_same
  by_cases h : ystop T D done i = 0
  · have e : yxc T i (s0, (D, done)) = (0, (ydo T D i, done + 1)) := by unfold yxc; rw [if_pos (show ystop T D done i = 0 from h)]; exact congrArg (fun z => (z, _)) h
    rw [e] at h200 h3 ⊢
    rw [h] at start P1 K1 e8
    have hd : ¬ done = 200 := fun h' => by
      unfold ystop at h
      rw [if_pos h'] at h
      exact absurd h (by decide)
    have h0 : yfault T D i = 0 := by
      unfold ystop at h
      rw [if_neg hd] at h
      exact h
    generalize t.s1 160 8 (yI 0) = t1 at *
    obtain ⟨u, hu, Mu, Fu⟩ := m_158 (d := d) P1 hi hc hK hN h0
    have K2 : yKg t1 u := yKg_f Fu (fun a h => h)
    have u24 : u.A 160 24 = yI done := by rw [Fu.A (by decide)]; exact P1.2.2
    have e7 : yI done + 1 = yI (done + 1) := yI_add
    have ei : yI i + 1 = yI (i + 1) := yI_add
    have K3 : yKg u (u.s1 160 24 (yI (done + 1))) := yKg_s (Or.inr rfl)
    have c0 : yI 0 ≤ 0 := by decide
    refine ⟨u.s1 160 24 (yI (done + 1)), fun _ Q => (start Q).trans ?_, fun h => absurd rfl h, ⟨⟨by rw [ys1_ne (by decide)]; exact Mu, yGm_g P1.2.1 (yKg_tr K2 K3), ys1_same⟩, ?_, h200, h3⟩, yKg_tr K1 (yKg_tr K2 K3)⟩
    · rw [s_156_60]
      simp only [s_156_0, s_156_1, s_156_3, s_156_4, s_156_5, s_156_6, s_156_7, s_156_8, s_156_9, s_156_10, s_156_11, s_156_12, s_156_13, s_156_14, s_156_15, s_156_16, s_156_18, s_156_19, s_156_20, s_156_21, s_156_22, s_156_23, s_156_24, s_156_25, s_156_26, s_156_27, s_156_28, s_156_29, s_156_30, s_156_31, s_156_32, s_156_33, s_156_34, s_156_35, s_156_36, s_156_37, s_156_38, s_156_39, s_156_40, s_156_41, s_156_42, s_156_43, s_156_44, s_156_45, s_156_46, s_156_47, s_156_48, s_156_49, s_156_50, s_156_51, s_156_52, s_156_53, s_156_54, s_156_55, s_156_56, s_156_57, s_156_58, s_156_59, s_156_61, s_156_62, s_156_63, s_156_64, s_156_65, s_156_66, s_156_67, s_156_68, s_156_69, s_156_69i, s_156_70, s_156_71, s_156_72, s_156_73, s_156_74, s_156_75, s_156_76, s_156_77, yO_160, e8, c0, if_true, hu, u24, e7, ei, Gk_v, Gk_n, xcat_nil, xcat_i, xcat_r, xcat_l, xcat_d, Nat.zero_le, Nat.reduceAdd, Nat.reduceLeDiff, true_and, and_true, ykl_i, ykl_r, ykl_n, ykl_l]
    · rw [ys1_upd, yupd_ne (by decide), Fu.A (by decide)]
      exact e8
  · have e : yxc T i (s0, (D, done)) = (ystop T D done i, (D, done)) := by unfold yxc; rw [if_neg (show ¬ ystop T D done i = 0 from h)]
    rw [e] at h200 h3 ⊢
    have c0 : ¬ yI (ystop T D done i) ≤ 0 := fun h' => by
      have := (yI_le (m := 0) (by omega) (by decide)).mp h'
      omega
    refine ⟨t.s1 160 8 (yI (ystop T D done i)), fun h' => absurd h' h, fun _ Q => (start Q).trans ?_, ⟨P1, e8, h200, h3⟩, K1⟩
    rw [s_156_60]
    simp only [s_156_0, s_156_1, s_156_3, s_156_4, s_156_5, s_156_6, s_156_7, s_156_8, s_156_9, s_156_10, s_156_11, s_156_12, s_156_13, s_156_14, s_156_15, s_156_16, s_156_18, s_156_19, s_156_20, s_156_21, s_156_22, s_156_23, s_156_24, s_156_25, s_156_26, s_156_27, s_156_28, s_156_29, s_156_30, s_156_31, s_156_32, s_156_33, s_156_34, s_156_35, s_156_36, s_156_37, s_156_38, s_156_39, s_156_40, s_156_41, s_156_42, s_156_43, s_156_44, s_156_45, s_156_46, s_156_47, s_156_48, s_156_49, s_156_50, s_156_51, s_156_52, s_156_53, s_156_54, s_156_55, s_156_56, s_156_57, s_156_58, s_156_59, s_156_61, s_156_62, s_156_63, s_156_64, s_156_65, s_156_66, s_156_67, s_156_68, s_156_69, s_156_69i, s_156_70, s_156_71, s_156_72, s_156_73, s_156_74, s_156_75, s_156_76, s_156_77, yO_160, e8, c0, if_false, ybo_0, Gk_v, Gk_n, xcat_nil, xcat_i, xcat_r, xcat_l, xcat_d, Nat.zero_le, Nat.reduceAdd, Nat.reduceLeDiff, true_and, and_true, ykl_i, ykl_r, ykl_n, ykl_l]
theorem l_156r {W : Nat → Nat → Prop} {f : Nat → Nat → yXs → yXs} (HB : yXm (d + 8) T cN W f) (hi : i < cN) (hc : cN ≤ 60) (h20 : T.2.1 i 0 ≤ 20) (h5 : T.1 i = 5) (he : T.2.2 i ≤ cN) (hW : W (i + 1) (T.2.2 i)) {l1 : Option Value} {x2 : Int32} : ∀ m time (t : yT) (X : yXs), time + m = T.2.1 i 0 → yQm t T cN X → X.1 = 0 →
    ∃ u, ((yxrep (f (i + 1) (T.2.2 i)) m X).1 = 0 → ∃ l5, Gg (d + 9) 156 17 [some (.ref 160), l1, some (.int x2), some (.int (yI i)), some (.int (yI (7 * i))), some (.int (yI time))] [] (yemb t) 2 [some (.ref 160), l1, some (.int x2), some (.int (yI (T.2.2 i))), some (.int (yI (7 * i))), l5] [] (yemb u))
      ∧ (((yxrep (f (i + 1) (T.2.2 i)) m X).1 ≠ 0 → Ga (d + 9) 156 17 [some (.ref 160), l1, some (.int x2), some (.int (yI i)), some (.int (yI (7 * i))), some (.int (yI time))] [] (yemb t) (.inl (some (.int 0))) (yemb u)) ∧ (yQm u T cN (yxrep (f (i + 1) (T.2.2 i)) m X) ∧ yKg t u)) := by
  have e1 : yI (7 * i) + 1 = yI (7 * i + 1) := yI_add
  have e6 : yI (7 * i) + 6 = yI (7 * i + 6) := yI_add
  have ei : yI i + 1 = yI (i + 1) := yI_add
  have i1 : yix (yI (7 * i + 1)) 427 := yix_I (by omega) (by omega)
  have c1 : (yI (7 * i + 1)).toNatClampNeg = 7 * i + 1 := yI_clamp (by omega)
  have i6 : yix (yI (7 * i + 6)) 427 := yix_I (by omega) (by omega)
  have c6 : (yI (7 * i + 6)).toNatClampNeg = 7 * i + 6 := yI_clamp (by omega)
  intro m
  induction m with
  | zero =>
    intro time t X hm P h0
    obtain ⟨g1, g2, g3⟩ := P.1.2.1 i (Nat.zero_le _) hi
    have n0 : t.A 179 (7 * i + 1) = yI (T.2.1 i 0) := g2 0 (by rw [h5]; decide)
    have n6 := g3 h5
    have c : yI (T.2.1 i 0) ≤ yI time := (yI_le (by omega) (by omega)).mpr (by omega)
    refine ⟨t, fun _ => ⟨some (.int (yI time)), fun Q => ?_⟩, fun h => absurd h0 h, P, yKg_rfl⟩
    rw [s_156_17]
    simp only [s_156_0, s_156_1, s_156_3, s_156_4, s_156_5, s_156_6, s_156_7, s_156_8, s_156_9, s_156_10, s_156_11, s_156_12, s_156_13, s_156_14, s_156_15, s_156_16, s_156_18, s_156_19, s_156_20, s_156_21, s_156_22, s_156_23, s_156_24, s_156_25, s_156_26, s_156_27, s_156_28, s_156_29, s_156_30, s_156_31, s_156_32, s_156_33, s_156_34, s_156_35, s_156_36, s_156_37, s_156_38, s_156_39, s_156_40, s_156_41, s_156_42, s_156_43, s_156_44, s_156_45, s_156_46, s_156_47, s_156_48, s_156_49, s_156_50, s_156_51, s_156_52, s_156_53, s_156_54, s_156_55, s_156_56, s_156_57, s_156_58, s_156_59, s_156_61, s_156_62, s_156_63, s_156_64, s_156_65, s_156_66, s_156_67, s_156_68, s_156_69, s_156_69i, s_156_70, s_156_71, s_156_72, s_156_73, s_156_74, s_156_75, s_156_76, s_156_77, yO_160, yA_179, yn_179, e1, i1, c1, n0, c, if_true, e6, i6, c6, n6, Gk_v, Gk_n, xcat_nil, xcat_i, xcat_r, xcat_l, xcat_d, Nat.zero_le, Nat.reduceAdd, Nat.reduceLeDiff, true_and, and_true, ykl_i, ykl_r, ykl_n, ykl_l]
  | succ m ih =>
    intro time t X hm P h0
    obtain ⟨g1, g2, g3⟩ := P.1.2.1 i (Nat.zero_le _) hi
    have n0 : t.A 179 (7 * i + 1) = yI (T.2.1 i 0) := g2 0 (by rw [h5]; decide)
    have n6 := g3 h5
    have c : ¬ yI (T.2.1 i 0) ≤ yI time := fun h => absurd ((yI_le (by omega) (by omega)).mp h) (by omega)
    have et : yI time + 1 = yI (time + 1) := yI_add
    obtain ⟨u, hu, Pu, Ku⟩ := HB t (i + 1) (T.2.2 i) X he hW P h0
    rw [yxrep]
    by_cases hX : (f (i + 1) (T.2.2 i) X).1 = 0
    · rw [if_pos hX]
      rw [decide_eq_true hX] at hu
      obtain ⟨v, v1, v2, Pv, Kv⟩ := ih (time + 1) u _ (by omega) Pu hX
      have step : ∀ Q, G (d + 9) 156 17 [some (.ref 160), l1, some (.int x2), some (.int (yI i)), some (.int (yI (7 * i))), some (.int (yI time))] [] (yemb t) Q ↔ G (d + 9) 156 17 [some (.ref 160), l1, some (.int x2), some (.int (yI i)), some (.int (yI (7 * i))), some (.int (yI (time + 1)))] [] (yemb u) Q := by
        intro Q
        rw [s_156_17]
        simp only [s_156_0, s_156_1, s_156_3, s_156_4, s_156_5, s_156_6, s_156_7, s_156_8, s_156_9, s_156_10, s_156_11, s_156_12, s_156_13, s_156_14, s_156_15, s_156_16, s_156_18, s_156_19, s_156_20, s_156_21, s_156_22, s_156_23, s_156_24, s_156_25, s_156_26, s_156_27, s_156_28, s_156_29, s_156_30, s_156_31, s_156_32, s_156_33, s_156_34, s_156_35, s_156_36, s_156_37, s_156_38, s_156_39, s_156_40, s_156_41, s_156_42, s_156_43, s_156_44, s_156_45, s_156_46, s_156_47, s_156_48, s_156_49, s_156_50, s_156_51, s_156_52, s_156_53, s_156_54, s_156_55, s_156_56, s_156_57, s_156_58, s_156_59, s_156_61, s_156_62, s_156_63, s_156_64, s_156_65, s_156_66, s_156_67, s_156_68, s_156_69, s_156_69i, s_156_70, s_156_71, s_156_72, s_156_73, s_156_74, s_156_75, s_156_76, s_156_77, yO_160, yA_179, yn_179, e1, i1, c1, n0, c, if_false, e6, i6, c6, n6, ei, hu, ifbn, if_true, et, Gk_v, Gk_n, xcat_nil, xcat_i, xcat_r, xcat_l, xcat_d, Nat.zero_le, Nat.reduceAdd, Nat.reduceLeDiff, true_and, and_true, ykl_i, ykl_r, ykl_n, ykl_l]
      exact ⟨v, fun h => by obtain ⟨l5, hl⟩ := v1 h; exact ⟨l5, fun Q => (step Q).trans (hl Q)⟩, fun h Q => (step Q).trans (v2 h Q), Pv, yKg_tr Ku Kv⟩
    · rw [if_neg hX]
      rw [decide_eq_false hX] at hu
      refine ⟨u, fun h => absurd h hX, fun _ Q => ?_, Pu, Ku⟩
      rw [s_156_17]
      simp only [s_156_0, s_156_1, s_156_3, s_156_4, s_156_5, s_156_6, s_156_7, s_156_8, s_156_9, s_156_10, s_156_11, s_156_12, s_156_13, s_156_14, s_156_15, s_156_16, s_156_18, s_156_19, s_156_20, s_156_21, s_156_22, s_156_23, s_156_24, s_156_25, s_156_26, s_156_27, s_156_28, s_156_29, s_156_30, s_156_31, s_156_32, s_156_33, s_156_34, s_156_35, s_156_36, s_156_37, s_156_38, s_156_39, s_156_40, s_156_41, s_156_42, s_156_43, s_156_44, s_156_45, s_156_46, s_156_47, s_156_48, s_156_49, s_156_50, s_156_51, s_156_52, s_156_53, s_156_54, s_156_55, s_156_56, s_156_57, s_156_58, s_156_59, s_156_61, s_156_62, s_156_63, s_156_64, s_156_65, s_156_66, s_156_67, s_156_68, s_156_69, s_156_69i, s_156_70, s_156_71, s_156_72, s_156_73, s_156_74, s_156_75, s_156_76, s_156_77, yO_160, yA_179, yn_179, e1, i1, c1, n0, c, if_false, e6, i6, c6, n6, ei, hu, ifbn, Bool.false_eq_true, ybo_0, Gk_v, Gk_n, xcat_nil, xcat_i, xcat_r, xcat_l, xcat_d, Nat.zero_le, Nat.reduceAdd, Nat.reduceLeDiff, true_and, and_true, ykl_i, ykl_r, ykl_n, ykl_l]
theorem l_156 {W : Nat → Nat → Prop} {f : Nat → Nat → yXs → yXs} {hi : Nat} (HB : yXm (d + 8) T cN W f) (hh : hi ≤ cN) (hc : cN ≤ 60) {l1 : Option Value} : ∀ m lo (t : yT) (X : yXs) (l4 l5 : Option Value), hi - lo ≤ m → (∃ m', ywfS W T m' lo hi) → yQm t T cN X → X.1 = 0 →
    ∃ u, Ga (d + 9) 156 2 [some (.ref 160), l1, some (.int (yI hi)), some (.int (yI lo)), l4, l5] [] (yemb t) (.inl (some (.int (yb (decide ((yxS f T m lo hi X).1 = 0)))))) (yemb u) ∧ (yQm u T cN (yxS f T m lo hi X) ∧ yKg t u) := by
  have fin : ∀ lo (t : yT) (X : yXs) (l4 l5 : Option Value), hi ≤ lo → lo ≤ hi → X.1 = 0 → Ga (d + 9) 156 2 [some (.ref 160), l1, some (.int (yI hi)), some (.int (yI lo)), l4, l5] [] (yemb t) (.inl (some (.int (yb (decide (X.1 = 0)))))) (yemb t) := by
    intro lo t X l4 l5 h h' h0 Q
    have c : yI hi ≤ yI lo := (yI_le (by omega) (by omega)).mpr h
    rw [decide_eq_true h0]
    rw [s_156_2]
    simp only [s_156_0, s_156_1, s_156_3, s_156_4, s_156_5, s_156_6, s_156_7, s_156_8, s_156_9, s_156_10, s_156_11, s_156_12, s_156_13, s_156_14, s_156_15, s_156_16, s_156_18, s_156_19, s_156_20, s_156_21, s_156_22, s_156_23, s_156_24, s_156_25, s_156_26, s_156_27, s_156_28, s_156_29, s_156_30, s_156_31, s_156_32, s_156_33, s_156_34, s_156_35, s_156_36, s_156_37, s_156_38, s_156_39, s_156_40, s_156_41, s_156_42, s_156_43, s_156_44, s_156_45, s_156_46, s_156_47, s_156_48, s_156_50, s_156_51, s_156_52, s_156_53, s_156_54, s_156_55, s_156_56, s_156_57, s_156_58, s_156_59, s_156_60, s_156_61, s_156_62, s_156_63, s_156_64, s_156_65, s_156_66, s_156_67, s_156_68, s_156_69, s_156_69i, s_156_70, s_156_71, s_156_72, s_156_73, s_156_74, s_156_75, s_156_76, s_156_77, c, if_true, ybo_1, Gk_v, Gk_n, xcat_nil, xcat_i, xcat_r, xcat_l, xcat_d, Nat.zero_le, Nat.reduceAdd, Nat.reduceLeDiff, true_and, and_true, ykl_i, ykl_r, ykl_n, ykl_l]
    exact Iff.rfl
  intro m
  induction m with
  | zero =>
    intro lo t X l4 l5 hm ⟨m', hw⟩ P h0
    exact ⟨t, fin lo t X l4 l5 (by omega) (ywfS_le _ _ _ hw) h0, P, yKg_rfl⟩
  | succ m ih =>
    intro lo t X l4 l5 hm ⟨m', hw⟩ P h0
    rw [yxS]
    by_cases hl : hi ≤ lo
    · rw [if_pos hl]
      exact ⟨t, fin lo t X l4 l5 hl (ywfS_le _ _ _ hw) h0, P, yKg_rfl⟩
    · rw [if_neg hl]
      obtain ⟨⟨w1, w2⟩, w3, w4⟩ := ywfS_lt hw (by omega)
      obtain ⟨g1, g2, g3⟩ := P.1.2.1 lo (Nat.zero_le _) (by omega)
      have c0 : ¬ yI hi ≤ yI lo := fun h => absurd ((yI_le (by omega) (by omega)).mp h) (by omega)
      have e7 : (7 : Int32) * yI lo = yI (7 * lo) := yI_mul
      have i1 : yix (yI (7 * lo)) 427 := yix_I (by omega) (by omega)
      have c1 : (yI (7 * lo)).toNatClampNeg = 7 * lo := yI_clamp (by omega)
      -- the command itself
      suffices S : ∃ u, ((if T.1 lo = 5 then yxrep (f (lo + 1) (T.2.2 lo)) (T.2.1 lo 0) X else yxc T lo X).1 = 0 → ∃ l4' l5', Gg (d + 9) 156 2 [some (.ref 160), l1, some (.int (yI hi)), some (.int (yI lo)), l4, l5] [] (yemb t) 2 [some (.ref 160), l1, some (.int (yI hi)), some (.int (yI (T.2.2 lo))), l4', l5'] [] (yemb u))
          ∧ (((if T.1 lo = 5 then yxrep (f (lo + 1) (T.2.2 lo)) (T.2.1 lo 0) X else yxc T lo X).1 ≠ 0 → Ga (d + 9) 156 2 [some (.ref 160), l1, some (.int (yI hi)), some (.int (yI lo)), l4, l5] [] (yemb t) (.inl (some (.int 0))) (yemb u)) ∧ (yQm u T cN (if T.1 lo = 5 then yxrep (f (lo + 1) (T.2.2 lo)) (T.2.1 lo 0) X else yxc T lo X) ∧ yKg t u)) by
        obtain ⟨u, s1, s2, Pu, Ku⟩ := S
        generalize hX1 : (if T.1 lo = 5 then yxrep (f (lo + 1) (T.2.2 lo)) (T.2.1 lo 0) X else yxc T lo X) = X1 at *
        by_cases hX : X1.1 = 0
        · rw [if_pos hX]
          obtain ⟨l4', l5', hl'⟩ := s1 hX
          obtain ⟨v, hv, Pv, Kv⟩ := ih (T.2.2 lo) u X1 l4' l5' (by omega) w4 Pu hX
          exact ⟨v, fun Q => (hl' Q).trans (hv Q), Pv, yKg_tr Ku Kv⟩
        · rw [if_neg hX, decide_eq_false hX]
          exact ⟨u, s2 hX, Pu, Ku⟩
      rcases w3 with ⟨k5, ke, kN⟩ | ⟨k5, ⟨kn1, kn2⟩, kW⟩
      · have h5 : ¬ T.1 lo = 5 := by omega
        have c5 : ¬ yI (T.1 lo) = 5 := fun h => h5 ((yI_inj (m := 5) (by omega) (by decide)).mp h)
        rw [if_neg h5, ke]
        obtain ⟨u, u1, u2, Pu, Ku⟩ := l_156c (d := d) (l1 := l1) (x2 := yI hi) (l5 := l5) P (show lo < cN by omega) hc k5 kN
        have step : ∀ Q, G (d + 9) 156 2 [some (.ref 160), l1, some (.int (yI hi)), some (.int (yI lo)), l4, l5] [] (yemb t) Q ↔ G (d + 9) 156 49 [some (.ref 160), l1, some (.int (yI hi)), some (.int (yI lo)), some (.int (yI (7 * lo))), l5] [] (yemb t) Q := by
          intro Q
          rw [s_156_2]
          simp only [s_156_0, s_156_1, s_156_3, s_156_4, s_156_5, s_156_6, s_156_7, s_156_8, s_156_9, s_156_10, s_156_11, s_156_12, s_156_13, s_156_14, s_156_15, s_156_16, s_156_18, s_156_19, s_156_20, s_156_21, s_156_22, s_156_23, s_156_24, s_156_25, s_156_26, s_156_27, s_156_28, s_156_29, s_156_30, s_156_31, s_156_32, s_156_33, s_156_34, s_156_35, s_156_36, s_156_37, s_156_38, s_156_39, s_156_40, s_156_41, s_156_42, s_156_43, s_156_44, s_156_45, s_156_46, s_156_47, s_156_48, s_156_50, s_156_51, s_156_52, s_156_53, s_156_54, s_156_55, s_156_56, s_156_57, s_156_58, s_156_59, s_156_60, s_156_61, s_156_62, s_156_63, s_156_64, s_156_65, s_156_66, s_156_67, s_156_68, s_156_69, s_156_69i, s_156_70, s_156_71, s_156_72, s_156_73, s_156_74, s_156_75, s_156_76, s_156_77, c0, if_false, yO_160, e7, yA_179, yn_179, i1, c1, g1, c5, ne_eq, not_false_eq_true, if_true, Gk_v, Gk_n, xcat_nil, xcat_i, xcat_r, xcat_l, xcat_d, Nat.zero_le, Nat.reduceAdd, Nat.reduceLeDiff, true_and, and_true, ykl_i, ykl_r, ykl_n, ykl_l]
        exact ⟨u, fun h => ⟨_, _, fun Q => (step Q).trans (u1 h Q)⟩, fun h Q => (step Q).trans (u2 h Q), Pu, Ku⟩
      · rw [if_pos k5]
        have c5 : t.A 179 (7 * lo) = 5 := by rw [g1, k5]; rfl
        obtain ⟨u, u1, u2, Pu, Ku⟩ := l_156r (l1 := l1) (x2 := yI hi) HB (show lo < cN by omega) hc kn2 k5 (by omega) kW (T.2.1 lo 0) 0 t X (by omega) P h0
        have step : ∀ Q, G (d + 9) 156 2 [some (.ref 160), l1, some (.int (yI hi)), some (.int (yI lo)), l4, l5] [] (yemb t) Q ↔ G (d + 9) 156 17 [some (.ref 160), l1, some (.int (yI hi)), some (.int (yI lo)), some (.int (yI (7 * lo))), some (.int (yI 0))] [] (yemb t) Q := by
          intro Q
          rw [s_156_2]
          simp only [s_156_0, s_156_1, s_156_3, s_156_4, s_156_5, s_156_6, s_156_7, s_156_8, s_156_9, s_156_10, s_156_11, s_156_12, s_156_13, s_156_14, s_156_15, s_156_16, s_156_18, s_156_19, s_156_20, s_156_21, s_156_22, s_156_23, s_156_24, s_156_25, s_156_26, s_156_27, s_156_28, s_156_29, s_156_30, s_156_31, s_156_32, s_156_33, s_156_34, s_156_35, s_156_36, s_156_37, s_156_38, s_156_39, s_156_40, s_156_41, s_156_42, s_156_43, s_156_44, s_156_45, s_156_46, s_156_47, s_156_48, s_156_50, s_156_51, s_156_52, s_156_53, s_156_54, s_156_55, s_156_56, s_156_57, s_156_58, s_156_59, s_156_60, s_156_61, s_156_62, s_156_63, s_156_64, s_156_65, s_156_66, s_156_67, s_156_68, s_156_69, s_156_69i, s_156_70, s_156_71, s_156_72, s_156_73, s_156_74, s_156_75, s_156_76, s_156_77, c0, if_false, yO_160, e7, yA_179, yn_179, i1, c1, c5, ne_eq, not_true_eq_false, Gk_v, Gk_n, xcat_nil, xcat_i, xcat_r, xcat_l, xcat_d, Nat.zero_le, Nat.reduceAdd, Nat.reduceLeDiff, true_and, and_true, ykl_i, ykl_r, ykl_n, ykl_l]
          exact Iff.rfl
        exact ⟨u, fun h => by obtain ⟨l5', hl'⟩ := u1 h; exact ⟨_, l5', fun Q => (step Q).trans (hl' Q)⟩, fun h Q => (step Q).trans (u2 h Q), Pu, Ku⟩
theorem m_156K (hc : cN ≤ 60) : ∀ k, yXm (d + 9 + k) T cN (ywfK T k) (yxK T k) := by
  intro k
  induction k with
  | zero =>
    intro t lo hi X hh hw P h0
    have HB : yXm (d + 8) T cN (fun _ _ => False) (fun _ _ X => X) := fun _ _ _ _ _ h => h.elim
    obtain ⟨u, hu, Pu, Ku⟩ := l_156 (d := d) (l1 := some (.int (yI lo))) HB hh hc hi lo t X none none (by omega) hw P h0
    refine ⟨u, fun Q => ?_, Pu, Ku⟩
    show G (d + 9) 156 0 [some (.ref 160), some (.int (yI lo)), some (.int (yI hi)), none, none, none] [] (yemb t) Q ↔ _
    refine Iff.trans ?_ (hu Q)
    simp only [s_156_0, s_156_1, Gk_v, Gk_n, xcat_nil, xcat_i, xcat_r, xcat_l, xcat_d, Nat.zero_le, Nat.reduceAdd, Nat.reduceLeDiff, true_and, and_true, ykl_i, ykl_r, ykl_n, ykl_l]
  | succ k ih =>
    intro t lo hi X hh hw P h0
    have HB : yXm (d + 1 + k + 8) T cN (ywfK T k) (yxK T k) := by
      rw [show d + 1 + k + 8 = d + 9 + k by omega]
      exact ih
    obtain ⟨u, hu, Pu, Ku⟩ := l_156 (d := d + 1 + k) (l1 := some (.int (yI lo))) HB hh hc hi lo t X none none (by omega) hw P h0
    refine ⟨u, fun Q => ?_, Pu, Ku⟩
    show G (d + 9 + (k + 1)) 156 0 [some (.ref 160), some (.int (yI lo)), some (.int (yI hi)), none, none, none] [] (yemb t) Q ↔ _
    rw [show d + 9 + (k + 1) = d + 1 + k + 9 by omega]
    refine Iff.trans ?_ (hu Q)
    simp only [s_156_0, s_156_1, Gk_v, Gk_n, xcat_nil, xcat_i, xcat_r, xcat_l, xcat_d, Nat.zero_le, Nat.reduceAdd, Nat.reduceLeDiff, true_and, and_true, ykl_i, ykl_r, ykl_n, ykl_l]
end

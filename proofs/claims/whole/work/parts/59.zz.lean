/-! ===== a setup is loaded, on both sides ===== -/
section
variable {d : Nat} {t u : yT} {D : yD} {k : Nat} {E : Nat → yD} {s0 s1 : Option yD} {n n0 : Nat} {B : Nat → Nat} {eo eo' en : Int32} {P : Nat → Prop}
/-- the model's half behind a text -/
theorem yMI_t (C : yMI t D k E s0 s1 n0 B eo en) (F : yFr P t u) (hP : ∀ a, P a → a ≤ 160 ∨ ((163 ≤ a ∧ a ≤ 165) ∨ 179 ≤ a)) (h2 : u.A 160 2 = 0) (h7 : u.A 160 7 = eo') (h8 : u.A 160 8 = t.A 160 8) (h16 : u.A 160 16 = t.A 160 16) : yMI u D k E s0 s1 0 B eo' en := by
  obtain ⟨M, H, ⟨⟨a1, a2⟩, a3, a4⟩, -, -, c2⟩ := C
  have nP : ∀ a, (a = 162 ∨ (166 ≤ a ∧ a ≤ 178)) → ¬ P a := fun a g h => by have := hP a h; omega
  refine ⟨yM_ne M F (nP 162 (by decide)), yH2_fr H h16 (fun a g1 g2 => F.A (nP a (by omega))), ⟨⟨?_, ?_⟩, fun X hX => ?_, fun X hX => ?_⟩, ⟨by decide, h2, fun i hi => absurd hi (Nat.not_lt_zero _)⟩, h7, by rw [h8]; exact c2⟩
  · rw [F.A (nP 178 (by decide))]; exact a1
  · rw [F.A (nP 178 (by decide))]; exact a2
  · rw [F.A (nP 176 (by decide))]; exact a3 X hX
  · rw [F.A (nP 177 (by decide))]; exact a4 X hX
theorem yCI_eo (C : yCI t D k E s0 s1 n B eo en) {x : Int32} : yCI (t.s1 0 11 x) D k E s0 s1 n B x en := by
  have F : yFr (fun a => a = 0) t (t.s1 0 11 x) := yFr_s1 rfl
  obtain ⟨W, ⟨w, H⟩, ⟨⟨a1, a2⟩, a3, a4⟩, T, -, c2⟩ := C
  refine ⟨yW_fr W F (fun a _ _ (g3 : a = 0) => by omega), ⟨w, yH1_fr H F (fun a (h : a = 0) => by omega)⟩, ⟨⟨?_, ?_⟩, fun X hX => yW_fr (a3 X hX) F (fun a _ _ (g3 : a = 0) => by omega), fun X hX => yW_fr (a4 X hX) F (fun a _ _ (g3 : a = 0) => by omega)⟩, ⟨T.1, ?_, fun i hi => ?_⟩, ys1_same, ?_⟩
  · rw [ys1_upd, yupd_ne (by decide)]; exact a1
  · rw [ys1_upd, yupd_ne (by decide)]; exact a2
  · rw [ys1_ne (by decide)]; exact T.2.1
  · rw [ys1_ne (by decide)]; exact T.2.2 i hi
  · rw [ys1_upd, yupd_ne (by decide)]; exact c2
/-- the model's load, to where its text is read -/
theorem l_150s (M : yMI t D k E s0 s1 n0 B eo en) (hn : n ≤ n0) : ∃ (w : yT) (x2 x3 : Int32), (∀ Q, Cl (d + 22) 150 [.ref 160, .int (yI n)] (yemb t) Q ↔ G (d + 22) 150 21 [some (.ref 160), some (.int (yI n)), none, none] [] (yemb w) Q) ∧ (yMq w n B 0 ∧ ((w.A 160 0 = 0 ∧ (w.A 160 2 = 0 ∧ (w.A 160 8 = t.A 160 8 ∧ w.A 160 16 = t.A 160 16))) ∧ yFr (fun a => a = 160) t w)) := by
  have M0 := yMI_s1 (j := 0) (v := 0) M (by decide)
  obtain ⟨h600, c2, hB⟩ := M0.2.2.2.1
  have c1 : (decide ((0 : Int32) ≤ yI n ∧ yI n ≤ yI n0)) = true := decide_eq_true ⟨Int32.not_lt.mp (yI_nneg (by omega)), (yI_le (by omega) (by omega)).mpr hn⟩
  have F : yFr (fun a => a = 160) t (ybeg0 (t.s1 160 0 0) (yI n)) := (yFr_s1 (P := fun a => a = 160) rfl).trans ybeg0_F (fun a h => h.elim id id)
  have wA : (ybeg0 (t.s1 160 0 0) (yI n)).A 160 = upd (upd (upd (upd (upd (upd (upd (upd (upd (t.A 160) 0 0) 2 0) 3 (yI n)) 4 0) 5 0) 6 (-1)) 18 0) 19 0) 23 0 := by
    rw [ybeg0_A, ys1_upd]
  have w161 : (ybeg0 (t.s1 160 0 0) (yI n)).A 161 = t.A 161 := F.A (by decide)
  refine ⟨ybeg0 (t.s1 160 0 0) (yI n), 0, 0, fun Q => ?_, ⟨⟨by omega, ?_, fun i hi => ?_⟩, Nat.zero_le _, ?_, ⟨?_, ?_⟩, ?_, ⟨?_, ?_⟩, ?_⟩, ⟨?_, ?_, ?_, ?_⟩, F⟩
  · have g149 := m_149 (d := d + 21) (t := t.s1 160 0 0) (n := yI n)
    show G (d + 22) 150 0 [some (.ref 160), some (.int (yI n)), none, none] [] (yemb t) Q ↔ _
    simp only [s_150_0, s_150_1, s_150_2, s_150_3, s_150_4, s_150_5, s_150_6, s_150_7, s_150_8, s_150_9, s_150_10, s_150_11, s_150_12, s_150_13, s_150_14, s_150_15, s_150_16, s_150_17, s_150_18, s_150_19, s_150_20, s_150_22, s_150_23, s_150_24, s_150_25, s_150_26, s_150_27, s_150_28, s_150_29, s_150_30, s_150_31, s_150_32, s_150_33, s_150_34, s_150_35, s_150_36, s_150_37, s_150_38, s_150_39, s_150_40, s_150_41, s_150_42, s_150_43, s_150_44, s_150_45, s_150_46, s_150_47, s_150_48, s_150_49, s_150_50, s_150_51, s_150_52, s_150_53, s_150_54, s_150_55, s_150_56, s_150_57, s_150_58, s_150_59, s_150_60, s_150_61, s_150_62, s_150_63, s_150_64, s_150_65, s_150_66, s_150_67, s_150_68, s_150_69, s_150_70, s_150_71, s_150_72, s_150_73, s_150_74, s_150_75, s_150_76, s_150_77, s_150_78, s_150_79, s_150_80, yO_160, c2, m_125, c1, ifbn, if_true, m_124f yne10 ys1_same, g149, Gk_v, Gk_n, xcat_nil, xcat_i, xcat_r, xcat_l, xcat_d, Nat.zero_le, Nat.reduceAdd, Nat.reduceLeDiff, true_and, and_true, ykl_i, ykl_r, ykl_n, ykl_l]
  · rw [wA]; rfl
  · rw [w161]
    have := hB i (by omega)
    rw [ys1_ne (by decide)] at this
    exact this
  · rw [wA]; rfl
  · rw [wA]; rfl
  · rw [wA]; rfl
  · rw [wA]; rfl
  · show (ybeg0 (t.s1 160 0 0) (yI n)).L 160 20 = 0
    unfold ybeg0
    rw [ys1_L, ysL_same, vp_updL_if, if_neg (by decide), ysL_same, vp_updL_same]
  · show (ybeg0 (t.s1 160 0 0) (yI n)).L 160 21 = 0
    unfold ybeg0
    rw [ys1_L, ysL_same, vp_updL_same]
  · rw [wA]; rfl
  · rw [wA]; rfl
  · rw [wA]; rfl
  · rw [wA]; rfl
  · rw [wA]; rfl
theorem p_150e (M : yMI t D k E s0 s1 n0 B eo en) (hn : n ≤ n0) {c : Int32} {a : Nat} (h : yrset n B = .inl (c, a)) : ∃ u, Ra (d + 22) 150 [.ref 160, .int (yI n)] (yemb t) (.inl (some (.int c))) (yemb u) ∧ (yMI u D k E s0 s1 0 B (yI a) en ∧ (u.A 160 0 = 0 ∧ yFm t u)) := by
  obtain ⟨w, -, -, hw, Mq, ⟨w0, w2, w8, w16⟩, F⟩ := l_150s (d := d) M hn
  obtain ⟨x2, x3, H⟩ := l_150h (d := d) Mq.1.1 (x1 := yI n) Mq
  rw [h] at H
  obtain ⟨v, hv, ⟨v0, v5, v6⟩, Kj, Kf⟩ := H
  have F2 := F.trans Kf (P'' := fun a => a = 160 ∨ a = 163) (fun a h => h.elim (fun h => Or.inl h) id)
  have F3 := F2.trans (yFr_s1 (P := fun a => a = 160) (j := 7) (v := v.A 160 6) rfl) (P'' := fun a => a = 160 ∨ a = 163) (fun a h => h.elim id (fun h => Or.inl h))
  have v0' : ¬ (v.s1 160 7 (v.A 160 6)).A 160 5 = 0 := by rw [ys1_upd, yupd_ne (by decide)]; exact v0
  have g132 := w_132n (d := d + 21) v0'
  have e5 : (v.s1 160 7 (v.A 160 6)).A 160 5 = c := by rw [ys1_upd, yupd_ne (by decide)]; exact v5
  refine ⟨v.s1 160 7 (v.A 160 6), fun Q => ?_, yMI_t M F3 (fun a h => by omega) ?_ ?_ ?_ ?_, ?_, yFm_fr F3 (fun a h => by omega)⟩
  · refine (hw Q).trans ((hv Q).trans ?_)
    rw [s_150_58]
    simp only [s_150_0, s_150_1, s_150_2, s_150_3, s_150_4, s_150_5, s_150_6, s_150_7, s_150_8, s_150_9, s_150_10, s_150_11, s_150_12, s_150_13, s_150_14, s_150_15, s_150_16, s_150_17, s_150_18, s_150_19, s_150_20, s_150_21, s_150_22, s_150_23, s_150_24, s_150_25, s_150_26, s_150_27, s_150_28, s_150_29, s_150_30, s_150_31, s_150_32, s_150_33, s_150_34, s_150_35, s_150_36, s_150_37, s_150_38, s_150_39, s_150_40, s_150_41, s_150_42, s_150_43, s_150_44, s_150_45, s_150_46, s_150_47, s_150_48, s_150_49, s_150_50, s_150_51, s_150_52, s_150_53, s_150_54, s_150_55, s_150_56, s_150_57, s_150_58, s_150_59, s_150_60, s_150_61, s_150_62, s_150_63, s_150_64, s_150_65, s_150_66, s_150_67, s_150_68, s_150_69, s_150_70, s_150_71, s_150_72, s_150_73, s_150_74, s_150_75, s_150_76, s_150_77, s_150_78, s_150_79, s_150_80, yO_160, g132, e5, ne_eq, not_true_eq_false, if_false, Gk_v, Gk_n, xcat_nil, xcat_i, xcat_r, xcat_l, xcat_d, Nat.zero_le, Nat.reduceAdd, Nat.reduceLeDiff, true_and, and_true, ykl_i, ykl_r, ykl_n, ykl_l]
  · rw [ys1_upd, yupd_ne (by decide), Kj 2 (by decide)]; exact w2
  · rw [ys1_same]; exact v6
  · rw [ys1_upd, yupd_ne (by decide), Kj 8 (by decide)]; exact w8
  · rw [ys1_upd, yupd_ne (by decide), Kj 16 (by decide)]; exact w16
  · rw [ys1_upd, yupd_ne (by decide), Kj 0 (by decide)]; exact w0
theorem p_150 (M : yMI t D k E s0 s1 n0 B eo en) (hn : n ≤ n0) {q : Nat} {U : yU} (h : yrset n B = .inr (q, U)) : ∃ u, Ra (d + 22) 150 [.ref 160, .int (yI n)] (yemb t) (.inl (some (.int (yI U.1.n)))) (yemb u) ∧ (yMI u U.1 (min 8 (k + 1)) (ypush D E) s0 s1 0 B (-1) en ∧ (u.A 160 0 = 0 ∧ yFm t u)) := by
  obtain ⟨w, -, -, hw, Mq, ⟨w0, w2, w8, w16⟩, F⟩ := l_150s (d := d) M hn
  obtain ⟨x2, x3, H⟩ := l_150h (d := d) Mq.1.1 (x1 := yI n) Mq
  rw [h] at H
  obtain ⟨v, m', hv, Mv, hq, Kj, Kf⟩ := H
  have F2 := F.trans Kf (P'' := fun a => a = 160 ∨ a = 163) (fun a h => h.elim (fun h => Or.inl h) id)
  obtain ⟨x, hx⟩ : ∃ x, x = v.s1 160 7 (v.A 160 6) := ⟨_, rfl⟩
  have F3 : yFr (fun a => a = 160 ∨ a = 163) t x := by
    rw [hx]
    exact F2.trans (yFr_s1 (P := fun a => a = 160) (j := 7) (v := v.A 160 6) rfl) (fun a h => h.elim id (fun h => Or.inl h))
  have xA : ∀ j, j ≠ 7 → x.A 160 j = v.A 160 j := fun j hj => by rw [hx, ys1_upd, yupd_ne hj]
  have x5 : x.A 160 5 = 0 := by rw [xA 5 (by decide)]; exact Mv.2.2.2.1.1
  have x7 : x.A 160 7 = -1 := by rw [hx, ys1_same]; exact Mv.2.2.2.1.2
  have Mx : yM (x.A 163) U.1 := by rw [hx, ys1_ne (by decide)]; exact Mv.2.2.2.2.2.1
  have C3 : yMI x D k E s0 s1 0 B (-1) en := yMI_t M F3 (fun a h => by omega) (by rw [xA 2 (by decide), Kj 2 (by decide)]; exact w2) x7 (by rw [xA 8 (by decide), Kj 8 (by decide)]; exact w8) (by rw [xA 16 (by decide), Kj 16 (by decide)]; exact w16)
  have g132 := m_132 (d := d + 21) (t := x)
  rw [decide_eq_true x5] at g132
  have c10 : ¬ yb true = 0 := by decide
  obtain ⟨y, hy, Hy, yj, Fy, -⟩ := m_203 (d := d + 20) C3.1 C3.2.1
  have C4 : yMI y D (min 8 (k + 1)) (ypush D E) s0 s1 0 B (-1) en := yMI_upd C3 (yj 2 (by decide)) (yj 7 (by decide)) (yj 8 (by decide)) (fun a ha => Fy.A (by omega)) (yM_ne C3.1 Fy (by omega)) Hy
  have My : yM (y.A 163) U.1 := by rw [Fy.A (by omega)]; exact Mx
  obtain ⟨z, hz, Mz, Fz⟩ := m_127d (d := d + 21) yA_163 yA_162 (by decide) yn_163 yn_162 My
  have C5 : yMI z U.1 (min 8 (k + 1)) (ypush D E) s0 s1 0 B (-1) en := yMI_D C4 Fz (fun a (h : a = 162) => by omega) Mz
  refine ⟨z, fun Q => ?_, C5, ?_, yFm_trans (yFm_trans (yFm_fr F3 (fun a h => by omega)) (yFm_fr Fy (fun a h => by omega))) (yFm_fr Fz (fun a (h : a = 162) => by omega))⟩
  · refine (hw Q).trans ((hv Q).trans ?_)
    rw [s_150_58]
    have ex : ∀ Q', G (d + 22) 150 62 [some (.ref 160), some (.int (yI n)), some (.int x2), some (.int x3)] [] (yemb (v.s1 160 7 (v.A 160 6))) Q' ↔ G (d + 22) 150 62 [some (.ref 160), some (.int (yI n)), some (.int x2), some (.int x3)] [] (yemb x) Q' := fun Q' => by rw [hx]
    simp only [s_150_0, s_150_1, s_150_2, s_150_3, s_150_4, s_150_5, s_150_6, s_150_7, s_150_8, s_150_9, s_150_10, s_150_11, s_150_12, s_150_13, s_150_14, s_150_15, s_150_16, s_150_17, s_150_18, s_150_19, s_150_20, s_150_21, s_150_22, s_150_23, s_150_24, s_150_25, s_150_26, s_150_27, s_150_28, s_150_29, s_150_30, s_150_31, s_150_32, s_150_33, s_150_34, s_150_35, s_150_36, s_150_37, s_150_38, s_150_39, s_150_40, s_150_41, s_150_42, s_150_43, s_150_44, s_150_45, s_150_46, s_150_47, s_150_48, s_150_49, s_150_50, s_150_51, s_150_52, s_150_53, s_150_54, s_150_55, s_150_56, s_150_57, s_150_58, s_150_59, s_150_60, s_150_61, s_150_63, s_150_64, s_150_65, s_150_66, s_150_67, s_150_68, s_150_69, s_150_70, s_150_71, s_150_72, s_150_73, s_150_74, s_150_75, s_150_76, s_150_77, s_150_78, s_150_79, s_150_80, yO_160, ex, Gk_v, Gk_n, xcat_nil, xcat_i, xcat_r, xcat_l, xcat_d, Nat.zero_le, Nat.reduceAdd, Nat.reduceLeDiff, true_and, and_true, ykl_i, ykl_r, ykl_n, ykl_l]
    rw [s_150_62]
    simp only [s_150_0, s_150_1, s_150_2, s_150_3, s_150_4, s_150_5, s_150_6, s_150_7, s_150_8, s_150_9, s_150_10, s_150_11, s_150_12, s_150_13, s_150_14, s_150_15, s_150_16, s_150_17, s_150_18, s_150_19, s_150_20, s_150_21, s_150_22, s_150_23, s_150_24, s_150_25, s_150_26, s_150_27, s_150_28, s_150_29, s_150_30, s_150_31, s_150_32, s_150_33, s_150_34, s_150_35, s_150_36, s_150_37, s_150_38, s_150_39, s_150_40, s_150_41, s_150_42, s_150_43, s_150_44, s_150_45, s_150_46, s_150_47, s_150_48, s_150_49, s_150_50, s_150_51, s_150_52, s_150_53, s_150_54, s_150_55, s_150_56, s_150_57, s_150_58, s_150_59, s_150_60, s_150_61, s_150_63, s_150_64, s_150_65, s_150_66, s_150_67, s_150_68, s_150_69, s_150_70, s_150_71, s_150_72, s_150_73, s_150_74, s_150_75, s_150_76, s_150_77, s_150_78, s_150_79, s_150_80, yO_160, g132, c10, ne_eq, not_false_eq_true, if_true, hy, hz, yA_162, yn_162, yix0, ycl0, Mz.n, Gk_v, Gk_n, xcat_nil, xcat_i, xcat_r, xcat_l, xcat_d, Nat.zero_le, Nat.reduceAdd, Nat.reduceLeDiff, true_and, and_true, ykl_i, ykl_r, ykl_n, ykl_l]
  · rw [Fz.A (by decide), yj 0 (by decide), xA 0 (by decide), Kj 0 (by decide)]; exact w0
theorem p_150t (M : yMI t D k E s0 s1 n0 B eo en) {a : Int32} (h : decide ((0 : Int32) ≤ a ∧ a ≤ yI n0) = false) : ∃ u, Ra (d + 22) 150 [.ref 160, .int a] (yemb t) (.inl (some (.int 0))) (yemb u) ∧ (yMI u D k E s0 s1 n0 B eo en ∧ (u.A 160 0 = 1 ∧ yFm t u)) := by
  have M0 := yMI_s1 (j := 0) (v := 0) M (by decide)
  obtain ⟨-, c2, -⟩ := M0.2.2.2.1
  refine ⟨(t.s1 160 0 0).s1 160 0 1, fun Q => ?_, yMI_s1 (yMI_s1 M (by decide)) (by decide), ys1_same, (yFr_s1 (P := fun a => a = 160) rfl).trans (yFr_s1 (P := fun a => a = 160) rfl) (fun a h => by omega)⟩
  show G (d + 22) 150 0 [some (.ref 160), some (.int a), none, none] [] (yemb t) Q ↔ _
  simp only [s_150_0, s_150_1, s_150_2, s_150_3, s_150_4, s_150_5, s_150_6, s_150_7, s_150_8, s_150_9, s_150_10, s_150_11, s_150_12, s_150_13, s_150_14, s_150_15, s_150_16, s_150_17, s_150_18, s_150_19, s_150_20, s_150_21, s_150_22, s_150_23, s_150_24, s_150_25, s_150_26, s_150_27, s_150_28, s_150_29, s_150_30, s_150_31, s_150_32, s_150_33, s_150_34, s_150_35, s_150_36, s_150_37, s_150_38, s_150_39, s_150_40, s_150_41, s_150_42, s_150_43, s_150_44, s_150_45, s_150_46, s_150_47, s_150_48, s_150_49, s_150_50, s_150_51, s_150_52, s_150_53, s_150_54, s_150_55, s_150_56, s_150_57, s_150_58, s_150_59, s_150_60, s_150_61, s_150_62, s_150_63, s_150_64, s_150_65, s_150_66, s_150_67, s_150_68, s_150_69, s_150_70, s_150_71, s_150_72, s_150_73, s_150_74, s_150_75, s_150_76, s_150_77, s_150_78, s_150_79, s_150_80, yO_160, c2, m_125, h, ifbn, Bool.false_eq_true, if_false, m_124t yne10 ys1_same, yne10, Gk_v, Gk_n, xcat_nil, xcat_i, xcat_r, xcat_l, xcat_d, Nat.zero_le, Nat.reduceAdd, Nat.reduceLeDiff, true_and, and_true, ykl_i, ykl_r, ykl_n, ykl_l]
end

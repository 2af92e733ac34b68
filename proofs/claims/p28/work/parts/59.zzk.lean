/-! ===== a script is run, on both sides ===== -/
section
variable {d : Nat} {t u : yT} {D D' : yD} {k : Nat} {E : Nat → yD} {s0 s1 : Option yD} {n n0 : Nat} {B : Nat → Nat} {eo eo' en en' : Int32} {P : Nat → Prop}
theorem yCI_en (C : yCI t D k E s0 s1 n B eo en) {x : Int32} : yCI (t.s1 0 12 x) D k E s0 s1 n B eo x := by
  have F : yFr (fun a => a = 0) t (t.s1 0 12 x) := yFr_s1 rfl
  obtain ⟨W, ⟨w, H⟩, ⟨⟨a1, a2⟩, a3, a4⟩, T, c1, -⟩ := C
  refine ⟨yW_fr W F (fun a _ _ (g3 : a = 0) => by omega), ⟨w, yH1_fr H F (fun a (h : a = 0) => by omega)⟩, ⟨⟨?_, ?_⟩, fun X hX => yW_fr (a3 X hX) F (fun a _ _ (g3 : a = 0) => by omega), fun X hX => yW_fr (a4 X hX) F (fun a _ _ (g3 : a = 0) => by omega)⟩, ⟨T.1, ?_, fun i hi => ?_⟩, ?_, ys1_same⟩
  · rw [ys1_upd, yupd_ne (by decide)]; exact a1
  · rw [ys1_upd, yupd_ne (by decide)]; exact a2
  · rw [ys1_ne (by decide)]; exact T.2.1
  · rw [ys1_ne (by decide)]; exact T.2.2 i hi
  · rw [ys1_upd, yupd_ne (by decide)]; exact c1
theorem yMI_en (C : yMI t D k E s0 s1 n B eo en) (h2 : u.A 160 2 = t.A 160 2) (h7 : u.A 160 7 = t.A 160 7) (h8 : u.A 160 8 = en') (h16 : u.A 160 16 = t.A 160 16) (hA : ∀ a, (a = 161 ∨ (167 ≤ a ∧ a ≤ 178)) → u.A a = t.A a) (M : yM (u.A 162) D') : yMI u D' k E s0 s1 n B eo en' := by
  obtain ⟨-, H, ⟨⟨a1, a2⟩, a3, a4⟩, ⟨b1, b2, b3⟩, c1, c2⟩ := C
  refine ⟨M, yH2_fr H h16 (fun a g1 g2 => hA a (by omega)), ⟨⟨?_, ?_⟩, fun X hX => ?_, fun X hX => ?_⟩, ⟨b1, ?_, fun i hi => ?_⟩, ?_, h8⟩
  · rw [hA _ (by omega)]; exact a1
  · rw [hA _ (by omega)]; exact a2
  · rw [hA _ (by omega)]; exact a3 X hX
  · rw [hA _ (by omega)]; exact a4 X hX
  · rw [h2]; exact b2
  · rw [hA _ (by omega)]; exact b3 i hi
  · rw [h7]; exact c1
theorem yGc_fr {lo hi : Nat} {T : yTb} (G : yGc t lo hi T) (F : yFr P t u) (hP : ∀ a, P a → a < 35 ∨ 37 < a) : yGc u lo hi T := fun i h1 h2 => by
  obtain ⟨a, b, c⟩ := G i h1 h2
  have n : ∀ a, 35 ≤ a → a ≤ 37 → ¬ P a := fun a g1 g2 h => by have := hP a h; omega
  exact ⟨by rw [F.A (n 35 (by decide) (by decide))]; exact a, fun j hj => by rw [F.A (n 36 (by decide) (by decide))]; exact b j hj, by rw [F.A (n 37 (by decide) (by decide))]; exact c⟩
theorem m_9 : Ra d 9 [.ref 34] (yemb t) (.inl (some (.int (t.A 34 6)))) (yemb t) := by
  intro Q
  show G d 9 0 [some (.ref 34)] [] (yemb t) Q ↔ _
  simp only [s_9_0, s_9_1, s_9_2, yO_34, Gk_v, Gk_n, xcat_nil, xcat_i, xcat_r, xcat_l, xcat_d, Nat.zero_le, Nat.reduceAdd, Nat.reduceLeDiff, true_and, and_true, ykl_i, ykl_r, ykl_n, ykl_l]
theorem m_10 : Ra d 10 [.ref 34] (yemb t) (.inl (some (.int (t.A 34 7)))) (yemb t) := by
  intro Q
  show G d 10 0 [some (.ref 34)] [] (yemb t) Q ↔ _
  simp only [s_10_0, s_10_1, s_10_2, yO_34, Gk_v, Gk_n, xcat_nil, xcat_i, xcat_r, xcat_l, xcat_d, Nat.zero_le, Nat.reduceAdd, Nat.reduceLeDiff, true_and, and_true, ykl_i, ykl_r, ykl_n, ykl_l]
theorem m_11 : Ra d 11 [.ref 34] (yemb t) (.inl (some (.int (t.A 34 8)))) (yemb t) := by
  intro Q
  show G d 11 0 [some (.ref 34)] [] (yemb t) Q ↔ _
  simp only [s_11_0, s_11_1, s_11_2, yO_34, Gk_v, Gk_n, xcat_nil, xcat_i, xcat_r, xcat_l, xcat_d, Nat.zero_le, Nat.reduceAdd, Nat.reduceLeDiff, true_and, and_true, ykl_i, ykl_r, ykl_n, ykl_l]
theorem l_96s (C : yCI t D k E s0 s1 n0 B eo en) (hB : ∀ i, i < n0 → B i < 256) (hn : n ≤ n0) (Z : yZ t) : ∃ w, (∀ Q, Cl (d + 22) 96 [.ref 0, .int (yI n)] (yemb t) Q ↔ Cl (d + 21) 12 [.ref 34] (yemb w) (Gk (d + 22) 96 17 [some (.ref 0), some (.int (yI n)), none] [] Q)) ∧ (yTk w n B (ysk n B 0) ∧ (yZ w ∧ (w.A 1 9 = -1 ∧ yFr (fun a => a = 1) t w))) := by
  obtain ⟨h600, c2, hv⟩ := C.2.2.2.1
  have c1 : ¬ yI n < 0 := yI_nneg (by omega)
  have c3 : yI n ≤ yI n0 := (yI_le (by omega) (by omega)).mpr hn
  obtain ⟨w, hw, Tw, w8, w9, w1, F⟩ := m_79 (d := d + 19) c2 hn h600 (fun i hi => ⟨hB i (by omega), hv i (by omega)⟩)
  refine ⟨w, fun Q => ?_, Tw, yZ_fr Z F, w9, F⟩
  have g74 := fun t' => m_74 (d := d + 21) (t := t')
  show G (d + 22) 96 0 [some (.ref 0), some (.int (yI n)), none] [] (yemb t) Q ↔ _
  simp only [s_96_0, s_96_1, s_96_2, s_96_3, s_96_4, s_96_5, s_96_6, s_96_7, s_96_8, s_96_8i, s_96_11, s_96_12, s_96_13, s_96_14, s_96_15, s_96_16, s_96_17, s_96_19, s_96_20, s_96_21, s_96_22, s_96_23, s_96_24, s_96_25, s_96_26, s_96_27, s_96_28, s_96_29, s_96_30, s_96_31, s_96_32, s_96_33, s_96_34, s_96_35, s_96_36, s_96_37, s_96_38, s_96_39, s_96_40, s_96_41, s_96_42, s_96_43, s_96_44, s_96_45, s_96_46, s_96_46i, s_96_47, s_96_48, s_96_49, s_96_50, s_96_51, s_96_52, s_96_53, s_96_54, s_96_55, yO_0, yO_1, yO_34, g74, c2, c1, c3, if_true, if_false, hw, Gk_v, Gk_n, xcat_nil, xcat_i, xcat_r, xcat_l, xcat_d, Nat.zero_le, Nat.reduceAdd, Nat.reduceLeDiff, true_and, and_true, ykl_i, ykl_r, ykl_n, ykl_l]
theorem q_96e (C : yCI t D k E s0 s1 n0 B eo en) (hB : ∀ i, i < n0 → B i < 256) (hn : n ≤ n0) (Z : yZ t) {c : Int32} {a : Nat} (h : yrun n B = .inl (c, a)) : ∃ u, Ra (d + 22) 96 [.ref 0, .int (yI n)] (yemb t) (.inl (some (.int c))) (yemb u) ∧ (yCI u D k E s0 s1 0 B (yI a) en ∧ yFc t u) := by
  obtain ⟨w, hw, Tw, Zw, -, F⟩ := l_96s (d := d) C hB hn Z
  have H := m_12 (d := d + 7) Tw
  rw [h] at H
  obtain ⟨v, hv, ⟨v8, v9⟩, vj, Fv⟩ := H
  have F1 : yFr (fun a => a = 1 ∨ (34 ≤ a ∧ a ≤ 37)) t v := F.trans Fv (fun a h => h.elim (fun h => Or.inl h) id)
  have F2 : yFr (fun a => a = 1 ∨ (34 ≤ a ∧ a ≤ 37)) t (v.s1 1 1 0) := F1.trans (yFr_s1 (P := fun a => a = 1) rfl) (fun a h => h.elim id (fun h => Or.inl h))
  have C2 : yCI (v.s1 1 1 0) D k E s0 s1 0 B eo en := yCI_g C (yFg_fr F2) (fun a h => by omega) ⟨by decide, ys1_same, fun i hi => absurd hi (Nat.not_lt_zero _)⟩
  have e9 : (v.s1 1 1 0).A 1 9 = yI a := by rw [ys1_upd, yupd_ne (by decide)]; exact v9
  have e8 : ((v.s1 1 1 0).s1 0 11 (yI a)).A 1 8 = c := by rw [ys1_ne (by decide), ys1_upd, yupd_ne (by decide)]; exact v8
  have F3 : yFr (fun a => a < 160) t ((v.s1 1 1 0).s1 0 11 (yI a)) := F2.trans (yFr_s1 (P := fun a => a = 0) rfl) (fun a h => by omega)
  refine ⟨(v.s1 1 1 0).s1 0 11 (yI a), fun Q => ?_, yCI_eo C2, yFc_fr F3 (fun a h => Or.inl h)⟩
  refine (hw Q).trans ((hv _).trans ?_)
  have g78 := m_78 (d := d + 21) (t := v)
  have g76 := m_76 (d := d + 21) (t := v.s1 1 1 0)
  rw [e9] at g76
  have g75 := m_75 (d := d + 21) (t := (v.s1 1 1 0).s1 0 11 (yI a))
  rw [e8] at g75
  simp only [s_96_0, s_96_1, s_96_2, s_96_3, s_96_4, s_96_5, s_96_6, s_96_7, s_96_8, s_96_8i, s_96_11, s_96_12, s_96_13, s_96_14, s_96_15, s_96_16, s_96_17, s_96_18, s_96_19, s_96_20, s_96_21, s_96_22, s_96_23, s_96_24, s_96_25, s_96_26, s_96_27, s_96_28, s_96_29, s_96_30, s_96_31, s_96_32, s_96_33, s_96_34, s_96_35, s_96_36, s_96_37, s_96_38, s_96_39, s_96_40, s_96_41, s_96_42, s_96_43, s_96_44, s_96_45, s_96_46, s_96_46i, s_96_47, s_96_48, s_96_49, s_96_50, s_96_51, s_96_52, s_96_53, s_96_54, s_96_55, yO_0, yO_1, g78, g76, g75, ne_eq, not_true_eq_false, if_false, Gk_v, Gk_n, xcat_nil, xcat_i, xcat_r, xcat_l, xcat_d, Nat.zero_le, Nat.reduceAdd, Nat.reduceLeDiff, true_and, and_true, ykl_i, ykl_r, ykl_n, ykl_l]
theorem q_96 (C : yCI t D k E s0 s1 n0 B eo en) (hB : ∀ i, i < n0 → B i < 256) (hn : n ≤ n0) (Z : yZ t) {q c : Nat} {T : yTb} (h : yrun n B = .inr (q, (c, T))) : ∃ u, Ra (d + 22) 96 [.ref 0, .int (yI n)] (yemb t) (.inl (some (.int (yI (yxK T 3 0 c (0, (D, 0))).2.2)))) (yemb u) ∧ (yCI u (yxK T 3 0 c (0, (D, 0))).2.1 (min 8 (k + 1)) (ypush D E) s0 s1 0 B (-1) (yI (yxK T 3 0 c (0, (D, 0))).1) ∧ yFc t u) := by
  obtain ⟨w, hw, Tw, Zw, w9, F⟩ := l_96s (d := d) C hB hn Z
  obtain ⟨hc60, hwf⟩ := yrun_ok h
  have H := m_12 (d := d + 7) Tw
  rw [h] at H
  obtain ⟨v, hv, ⟨⟨v6, v7, v8⟩, Gv⟩, vj, Fv⟩ := H
  have F1 : yFr (fun a => a = 1 ∨ (34 ≤ a ∧ a ≤ 37)) t v := F.trans Fv (fun a h => h.elim (fun h => Or.inl h) id)
  have F2 : yFr (fun a => a = 1 ∨ (34 ≤ a ∧ a ≤ 37)) t (v.s1 1 1 0) := F1.trans (yFr_s1 (P := fun a => a = 1) rfl) (fun a h => h.elim id (fun h => Or.inl h))
  have C2 : yCI (v.s1 1 1 0) D k E s0 s1 0 B eo en := yCI_g C (yFg_fr F2) (fun a h => by omega) ⟨by decide, ys1_same, fun i hi => absurd hi (Nat.not_lt_zero _)⟩
  have e9 : (v.s1 1 1 0).A 1 9 = -1 := by rw [ys1_upd, yupd_ne (by decide), vj 9 (by decide)]; exact w9
  have F01 : yFr (fun a => a = 0 ∨ a = 1) v ((v.s1 1 1 0).s1 0 11 (-1)) := (yFr_s1 (P := fun a => a = 1) rfl).trans (yFr_s1 (P := fun a => a = 0) rfl) (fun a h => by omega)
  obtain ⟨x, hx, C3, F3⟩ := q_6 (d := d + 20) (yCI_eo C2 (x := -1))
  have F4 : yFr (fun a => a = 0 ∨ (a = 1 ∨ (38 ≤ a ∧ a < 136))) v x := F01.trans F3 (fun a h => by omega)
  have Gx : yGc x 0 c T := yGc_fr Gv F4 (fun a h => by omega)
  have x34 : x.A 34 = v.A 34 := F4.A (by decide)
  have Px : yQe x T c (0, (D, 0)) := ⟨⟨C3.1, Gx, by rw [x34]; exact v7⟩, by rw [x34]; exact v8, Nat.zero_le 200, Nat.zero_le 3⟩
  obtain ⟨y, hy, Py, Ky⟩ := m_17K (d := d + 11) (cN := c) hc60 3 (Nat.le_refl _) x 0 c (0, (D, 0)) (Nat.le_refl _) hwf Px rfl
  generalize yxK T 3 0 c (0, (D, 0)) = X at *
  have C4 : yCI y X.2.1 (min 8 (k + 1)) (ypush D E) s0 s1 0 B (-1) en := yCI_D C3 Ky.2 (fun a h => by omega) Py.1.1
  have FF : yFr (fun a => a < 160) t (y.s1 0 12 (yI X.1)) := (((F1.trans F4 (P'' := fun a => a < 160) (fun a h => by omega)).trans Ky.2 (P'' := fun a => a < 160) (fun a h => by omega))).trans (yFr_s1 (P := fun a => a = 0) rfl) (fun a h => by omega)
  refine ⟨y.s1 0 12 (yI X.1), fun Q => ?_, yCI_en C4, yFc_fr FF (fun a h => Or.inl h)⟩
  refine (hw Q).trans ((hv _).trans ?_)
  have g78 := m_78 (d := d + 21) (t := v)
  have g76 := m_76 (d := d + 21) (t := v.s1 1 1 0)
  rw [e9] at g76
  have c10 : ¬ (1 : Int32) = 0 := by decide
  have g9 := m_9 (d := d + 21) (t := x)
  rw [x34, v6] at g9
  have g11 := m_11 (d := d + 21) (t := y)
  rw [Py.2.1] at g11
  have g10 := m_10 (d := d + 21) (t := y.s1 0 12 (yI X.1))
  have e7 : (y.s1 0 12 (yI X.1)).A 34 7 = yI X.2.2 := by rw [ys1_ne (by decide)]; exact Py.1.2.2
  rw [e7] at g10
  have hy' : ∀ Q', Cl (d + 21) 17 [.ref 34, .int 0, .int (yI c), .int 0] (yemb x) Q' ↔ Q' _ _ := hy
  simp only [s_96_0, s_96_1, s_96_2, s_96_3, s_96_4, s_96_5, s_96_6, s_96_7, s_96_8, s_96_8i, s_96_11, s_96_12, s_96_13, s_96_14, s_96_15, s_96_16, s_96_17, s_96_18, s_96_19, s_96_20, s_96_21, s_96_22, s_96_23, s_96_24, s_96_25, s_96_26, s_96_27, s_96_28, s_96_29, s_96_30, s_96_31, s_96_32, s_96_33, s_96_34, s_96_35, s_96_36, s_96_37, s_96_38, s_96_39, s_96_40, s_96_41, s_96_42, s_96_43, s_96_44, s_96_45, s_96_46, s_96_46i, s_96_47, s_96_48, s_96_49, s_96_50, s_96_51, s_96_52, s_96_53, s_96_54, s_96_55, yO_0, yO_1, yO_7, yO_34, yO_38, g78, g76, c10, ne_eq, not_false_eq_true, if_true, hx, g9, hy', g11, g10, Gk_v, Gk_n, xcat_nil, xcat_i, xcat_r, xcat_l, xcat_d, Nat.zero_le, Nat.reduceAdd, Nat.reduceLeDiff, true_and, and_true, ykl_i, ykl_r, ykl_n, ykl_l]
theorem q_96t (C : yCI t D k E s0 s1 n0 B eo en) {a : Int32} (h : decide ((0 : Int32) ≤ a ∧ a ≤ yI n0) = false) (hz : t.z.1.1 < 900000) : Ra (d + 22) 96 [.ref 0, .int a] (yemb t) (.inr 0) (yemb t.bp) := by
  intro Q
  obtain ⟨h600, c2, hv⟩ := C.2.2.2.1
  have g74 := fun t' => m_74 (d := d + 21) (t := t')
  show G (d + 22) 96 0 [some (.ref 0), some (.int a), none] [] (yemb t) Q ↔ _
  by_cases c1 : a < 0
  · simp only [s_96_0, s_96_1, s_96_2, s_96_3, s_96_4, s_96_5, s_96_6, s_96_7, s_96_8, s_96_8i, s_96_11, s_96_12, s_96_13, s_96_14, s_96_15, s_96_16, s_96_17, s_96_18, s_96_19, s_96_20, s_96_21, s_96_22, s_96_23, s_96_24, s_96_25, s_96_26, s_96_27, s_96_28, s_96_29, s_96_30, s_96_31, s_96_32, s_96_33, s_96_34, s_96_35, s_96_36, s_96_37, s_96_38, s_96_39, s_96_40, s_96_41, s_96_42, s_96_43, s_96_44, s_96_45, s_96_46, s_96_46i, s_96_47, s_96_48, s_96_49, s_96_50, s_96_51, s_96_52, s_96_53, s_96_54, s_96_55, c1, if_true, xbump_z hz, xbump_emb, Gk_v, Gk_n, xcat_nil, xcat_i, xcat_r, xcat_l, xcat_d, Nat.zero_le, Nat.reduceAdd, Nat.reduceLeDiff, true_and, and_true, ykl_i, ykl_r, ykl_n, ykl_l]
  · have c3 : ¬ a ≤ yI n0 := fun h' => of_decide_eq_false h ⟨Int32.not_lt.mp c1, h'⟩
    simp only [s_96_0, s_96_1, s_96_2, s_96_3, s_96_4, s_96_5, s_96_6, s_96_7, s_96_8, s_96_8i, s_96_11, s_96_12, s_96_13, s_96_14, s_96_15, s_96_16, s_96_17, s_96_18, s_96_19, s_96_20, s_96_21, s_96_22, s_96_23, s_96_24, s_96_25, s_96_26, s_96_27, s_96_28, s_96_29, s_96_30, s_96_31, s_96_32, s_96_33, s_96_34, s_96_35, s_96_36, s_96_37, s_96_38, s_96_39, s_96_40, s_96_41, s_96_42, s_96_43, s_96_44, s_96_45, s_96_46, s_96_46i, s_96_47, s_96_48, s_96_49, s_96_50, s_96_51, s_96_52, s_96_53, s_96_54, s_96_55, yO_0, yO_1, g74, c2, c1, c3, if_false, xbump_z hz, xbump_emb, Gk_v, Gk_n, xcat_nil, xcat_i, xcat_r, xcat_l, xcat_d, Nat.zero_le, Nat.reduceAdd, Nat.reduceLeDiff, true_and, and_true, ykl_i, ykl_r, ykl_n, ykl_l]
end

/-! ===== a setup is loaded by the class; the whole call ===== -/
section
variable {d : Nat} {t u : yT} {D : yD} {k : Nat} {E : Nat → yD} {s0 s1 : Option yD} {n n0 : Nat} {B : Nat → Nat} {eo eo' en : Int32} {P : Nat → Prop}
theorem m_75 : Ra d 75 [.ref 1] (yemb t) (.inl (some (.int (t.A 1 8)))) (yemb t) := by
  intro Q
  show G d 75 0 [some (.ref 1)] [] (yemb t) Q ↔ _
  simp only [s_75_0, s_75_1, s_75_2, yO_1, Gk_v, Gk_n, xcat_nil, xcat_i, xcat_r, xcat_l, xcat_d, Nat.zero_le, Nat.reduceAdd, Nat.reduceLeDiff, true_and, and_true, ykl_i, ykl_r, ykl_n, ykl_l]
theorem m_76 : Ra d 76 [.ref 1] (yemb t) (.inl (some (.int (t.A 1 9)))) (yemb t) := by
  intro Q
  show G d 76 0 [some (.ref 1)] [] (yemb t) Q ↔ _
  simp only [s_76_0, s_76_1, s_76_2, yO_1, Gk_v, Gk_n, xcat_nil, xcat_i, xcat_r, xcat_l, xcat_d, Nat.zero_le, Nat.reduceAdd, Nat.reduceLeDiff, true_and, and_true, ykl_i, ykl_r, ykl_n, ykl_l]
theorem yFc_g (F : yFg (fun a => a < 160) t u) (Z : yZ u) (hz : u.z.1.1 ≤ t.z.1.1 + 3 ∧ u.z.1.2 ≤ t.z.1.2 + 700) : yFc t u :=
  ⟨fun a h1 _ => F.1 a (fun (h : a < 160) => by omega), fun _ => Z, hz, F.2.2⟩
/-- the class's load up to where its text is read -/
theorem l_95s (C : yCI t D k E s0 s1 n0 B eo en) (hB : ∀ i, i < n0 → B i < 256) (hn : n ≤ n0) (Z : yZ t) : ∃ w, (∀ Q, Cl (d + 17) 95 [.ref 0, .int (yI n)] (yemb t) Q ↔ Cl (d + 16) 21 [.ref 31] (yemb w) (Gk (d + 17) 95 17 [some (.ref 0), some (.int (yI n)), none] [] Q)) ∧ (yTk w n B (ysk n B 0) ∧ (yZ w ∧ (w.z = t.z ∧ (w.A 1 9 = -1 ∧ yFr (fun a => a = 1) t w)))) := by
  obtain ⟨h600, c2, hv⟩ := C.2.2.2.1
  have c1 : ¬ yI n < 0 := yI_nneg (by omega)
  have c3 : yI n ≤ yI n0 := (yI_le (by omega) (by omega)).mpr hn
  obtain ⟨w, hw, Tw, w8, w9, w1, F⟩ := m_79 (d := d + 14) c2 hn h600 (fun i hi => ⟨hB i (by omega), hv i (by omega)⟩)
  refine ⟨w, fun Q => ?_, Tw, yZ_fr Z F, F.z, w9, F⟩
  have g74 := fun t' => m_74 (d := d + 16) (t := t')
  show G (d + 17) 95 0 [some (.ref 0), some (.int (yI n)), none] [] (yemb t) Q ↔ _
  simp only [s_95_0, s_95_1, s_95_2, s_95_3, s_95_4, s_95_5, s_95_6, s_95_7, s_95_8, s_95_8i, s_95_11, s_95_12, s_95_13, s_95_14, s_95_15, s_95_16, s_95_17, s_95_19, s_95_20, s_95_21, s_95_22, s_95_23, s_95_24, s_95_25, s_95_26, s_95_27, s_95_28, s_95_29, s_95_30, s_95_31, s_95_32, s_95_33, s_95_34, s_95_35, s_95_36, s_95_37, s_95_38, s_95_39, s_95_40, s_95_41, s_95_42, s_95_43, s_95_44, s_95_45, s_95_46, yO_0, yO_1, yO_31, g74, c2, c1, c3, if_true, if_false, hw, Gk_v, Gk_n, xcat_nil, xcat_i, xcat_r, xcat_l, xcat_d, Nat.zero_le, Nat.reduceAdd, Nat.reduceLeDiff, true_and, and_true, ykl_i, ykl_r, ykl_n, ykl_l]
theorem q_95e (C : yCI t D k E s0 s1 n0 B eo en) (hB : ∀ i, i < n0 → B i < 256) (hn : n ≤ n0) (Z : yZ t) (hz : t.z.1.1 < 898000) {c : Int32} {a : Nat} (h : yrset n B = .inl (c, a)) : ∃ u, Ra (d + 17) 95 [.ref 0, .int (yI n)] (yemb t) (.inl (some (.int c))) (yemb u) ∧ (yCI u D k E s0 s1 0 B (yI a) en ∧ yFc t u) := by
  obtain ⟨w, hw, Tw, Zw, zw, -, F⟩ := l_95s (d := d) C hB hn Z
  have H := m_21 (d := d) (z0 := t.z.1.1 + 1) (s0 := t.z.1.2) (by omega) Tw Zw (by rw [zw]; omega) (by rw [zw]; omega)
  rw [h] at H
  obtain ⟨v, hv, v8, v9, ⟨vj, Fv⟩, Zv, zv⟩ := H
  have F1 : yFg yPc t v := (yFg_fr F).trans Fv (fun a h => h.elim (fun h => Or.inl h) id)
  have F2 : yFg yPc t (v.s1 1 1 0) := F1.trans (yFg_fr (yFr_s1 (P := fun a => a = 1) rfl)) (fun a h => h.elim id (fun h => Or.inl h))
  have C2 : yCI (v.s1 1 1 0) D k E s0 s1 0 B eo en := yCI_g C F2 (fun a h => by omega) ⟨by decide, ys1_same, fun i hi => absurd hi (Nat.not_lt_zero _)⟩
  have e9 : (v.s1 1 1 0).A 1 9 = yI a := by rw [ys1_upd, yupd_ne (by decide)]; exact v9
  have e8 : ((v.s1 1 1 0).s1 0 11 (yI a)).A 1 8 = c := by rw [ys1_ne (by decide), ys1_upd, yupd_ne (by decide)]; exact v8
  have F3 : yFg (fun a => a < 160) t ((v.s1 1 1 0).s1 0 11 (yI a)) := F2.trans (yFg_fr (yFr_s1 (P := fun a => a = 0) rfl)) (fun a h => by omega)
  refine ⟨(v.s1 1 1 0).s1 0 11 (yI a), fun Q => ?_, yCI_eo C2, yFc_g F3 Zv ⟨?_, ?_⟩⟩
  · refine (hw Q).trans ((hv _).trans ?_)
    have g78 := m_78 (d := d + 16) (t := v)
    have g76 := m_76 (d := d + 16) (t := v.s1 1 1 0)
    rw [e9] at g76
    have g75 := m_75 (d := d + 16) (t := (v.s1 1 1 0).s1 0 11 (yI a))
    rw [e8] at g75
    simp only [s_95_0, s_95_1, s_95_2, s_95_3, s_95_4, s_95_5, s_95_6, s_95_7, s_95_8, s_95_8i, s_95_11, s_95_12, s_95_13, s_95_14, s_95_15, s_95_16, s_95_17, s_95_18, s_95_19, s_95_20, s_95_21, s_95_22, s_95_23, s_95_24, s_95_25, s_95_26, s_95_27, s_95_28, s_95_29, s_95_30, s_95_31, s_95_32, s_95_33, s_95_34, s_95_35, s_95_36, s_95_37, s_95_38, s_95_39, s_95_40, s_95_41, s_95_42, s_95_43, s_95_44, s_95_45, s_95_46, yO_0, yO_1, g78, g76, g75, ne_eq, not_true_eq_false, if_false, Gk_v, Gk_n, xcat_nil, xcat_i, xcat_r, xcat_l, xcat_d, Nat.zero_le, Nat.reduceAdd, Nat.reduceLeDiff, true_and, and_true, ykl_i, ykl_r, ykl_n, ykl_l]
  · show v.z.1.1 ≤ _
    have := zv.1
    omega
  · show v.z.1.2 ≤ _
    have := zv.2
    omega
theorem q_95 (C : yCI t D k E s0 s1 n0 B eo en) (hB : ∀ i, i < n0 → B i < 256) (hn : n ≤ n0) (Z : yZ t) (hz : t.z.1.1 < 898000) {q : Nat} {U : yU} (h : yrset n B = .inr (q, U)) : ∃ u, Ra (d + 17) 95 [.ref 0, .int (yI n)] (yemb t) (.inl (some (.int (yI U.1.n)))) (yemb u) ∧ (yCI u U.1 (min 8 (k + 1)) (ypush D E) s0 s1 0 B (-1) en ∧ yFc t u) := by
  obtain ⟨w, hw, Tw, Zw, zw, w9, F⟩ := l_95s (d := d) C hB hn Z
  have H := m_21 (d := d) (z0 := t.z.1.1 + 1) (s0 := t.z.1.2) (by omega) Tw Zw (by rw [zw]; omega) (by rw [zw]; omega)
  rw [h] at H
  obtain ⟨v, hv, Cv, vj, Fv⟩ := H
  have Zz := yCs_zz Cv
  have F1 : yFg yPc t v := (yFg_fr F).trans Fv (fun a h => h.elim (fun h => Or.inl h) id)
  have F2 : yFg yPc t (v.s1 1 1 0) := F1.trans (yFg_fr (yFr_s1 (P := fun a => a = 1) rfl)) (fun a h => h.elim id (fun h => Or.inl h))
  have C2 : yCI (v.s1 1 1 0) D k E s0 s1 0 B eo en := yCI_g C F2 (fun a h => by omega) ⟨by decide, ys1_same, fun i hi => absurd hi (Nat.not_lt_zero _)⟩
  have e9 : (v.s1 1 1 0).A 1 9 = -1 := by rw [ys1_upd, yupd_ne (by decide), vj 9 (by decide)]; exact w9
  have F01 : yFr (fun a => a = 0 ∨ a = 1) v ((v.s1 1 1 0).s1 0 11 (-1)) := (yFr_s1 (P := fun a => a = 1) rfl).trans (yFr_s1 (P := fun a => a = 0) rfl) (fun a h => by omega)
  have W19 : yW ((v.s1 1 1 0).s1 0 11 (-1)) 19 U.1 := yW_fr Cv.2.1 F01 (fun a g1 g2 g3 => by omega)
  obtain ⟨x, hx, C3, F3⟩ := q_6 (d := d + 15) (yCI_eo C2 (x := -1))
  have W19x : yW x 19 U.1 := yW_fr W19 F3 (fun a g1 g2 (g3 : a = 38 ∨ (40 ≤ a ∧ a < 136)) => by omega)
  obtain ⟨y, hy, Wy, Fy⟩ := m_31' (d := d + 16) W19x yO_7 (by decide)
  have C4 : yCI y U.1 (min 8 (k + 1)) (ypush D E) s0 s1 0 B (-1) en := yCI_D C3 Fy (fun a (h : 7 ≤ a ∧ a ≤ 7 + 9) => by omega) Wy
  have FF : yFr (fun a => a < 160) v y := (F01.trans F3 (P'' := fun a => a < 160) (fun a h => by omega)).trans Fy (fun a h => by omega)
  have F5 : yFg (fun a => a < 160) t y := F1.trans (yFg_fr FF) (fun a h => h.elim (fun h => by omega) id)
  refine ⟨y, fun Q => ?_, C4, yFc_g F5 (yZ_fr Zz.1 FF) ⟨?_, ?_⟩⟩
  · refine (hw Q).trans ((hv _).trans ?_)
    have g78 := m_78 (d := d + 16) (t := v)
    have g76 := m_76 (d := d + 16) (t := v.s1 1 1 0)
    rw [e9] at g76
    have c10 : ¬ (1 : Int32) = 0 := by decide
    simp only [s_95_0, s_95_1, s_95_2, s_95_3, s_95_4, s_95_5, s_95_6, s_95_7, s_95_8, s_95_8i, s_95_11, s_95_12, s_95_13, s_95_14, s_95_15, s_95_16, s_95_17, s_95_18, s_95_19, s_95_20, s_95_21, s_95_22, s_95_23, s_95_24, s_95_25, s_95_26, s_95_27, s_95_28, s_95_29, s_95_30, s_95_31, s_95_32, s_95_33, s_95_34, s_95_35, s_95_36, s_95_37, s_95_38, s_95_39, s_95_40, s_95_41, s_95_42, s_95_43, s_95_44, s_95_45, s_95_46, yO_0, yO_1, yO_7, yO_38, g78, g76, c10, ne_eq, not_false_eq_true, if_true, hx, hy, Wy.n, Gk_v, Gk_n, xcat_nil, xcat_i, xcat_r, xcat_l, xcat_d, Nat.zero_le, Nat.reduceAdd, Nat.reduceLeDiff, true_and, and_true, ykl_i, ykl_r, ykl_n, ykl_l]
  · rw [FF.z]
    have := Zz.2.1
    omega
  · rw [FF.z]
    have := Zz.2.2
    omega
theorem q_95t (C : yCI t D k E s0 s1 n0 B eo en) {a : Int32} (h : decide ((0 : Int32) ≤ a ∧ a ≤ yI n0) = false) (hz : t.z.1.1 < 900000) : Ra (d + 17) 95 [.ref 0, .int a] (yemb t) (.inr 0) (yemb t.bp) := by
  intro Q
  obtain ⟨h600, c2, hv⟩ := C.2.2.2.1
  have g74 := fun t' => m_74 (d := d + 16) (t := t')
  show G (d + 17) 95 0 [some (.ref 0), some (.int a), none] [] (yemb t) Q ↔ _
  by_cases c1 : a < 0
  · simp only [s_95_0, s_95_1, s_95_2, s_95_3, s_95_4, s_95_5, s_95_6, s_95_7, s_95_8, s_95_8i, s_95_11, s_95_12, s_95_13, s_95_14, s_95_15, s_95_16, s_95_17, s_95_18, s_95_19, s_95_20, s_95_21, s_95_22, s_95_23, s_95_24, s_95_25, s_95_26, s_95_27, s_95_28, s_95_29, s_95_30, s_95_31, s_95_32, s_95_33, s_95_34, s_95_35, s_95_36, s_95_37, s_95_38, s_95_39, s_95_40, s_95_41, s_95_42, s_95_43, s_95_44, s_95_45, s_95_46, c1, if_true, xbump_z hz, xbump_emb, Gk_v, Gk_n, xcat_nil, xcat_i, xcat_r, xcat_l, xcat_d, Nat.zero_le, Nat.reduceAdd, Nat.reduceLeDiff, true_and, and_true, ykl_i, ykl_r, ykl_n, ykl_l]
  · have c3 : ¬ a ≤ yI n0 := fun h' => of_decide_eq_false h ⟨Int32.not_lt.mp c1, h'⟩
    simp only [s_95_0, s_95_1, s_95_2, s_95_3, s_95_4, s_95_5, s_95_6, s_95_7, s_95_8, s_95_8i, s_95_11, s_95_12, s_95_13, s_95_14, s_95_15, s_95_16, s_95_17, s_95_18, s_95_19, s_95_20, s_95_21, s_95_22, s_95_23, s_95_24, s_95_25, s_95_26, s_95_27, s_95_28, s_95_29, s_95_30, s_95_31, s_95_32, s_95_33, s_95_34, s_95_35, s_95_36, s_95_37, s_95_38, s_95_39, s_95_40, s_95_41, s_95_42, s_95_43, s_95_44, s_95_45, s_95_46, yO_0, yO_1, g74, c2, c1, c3, if_false, xbump_z hz, xbump_emb, Gk_v, Gk_n, xcat_nil, xcat_i, xcat_r, xcat_l, xcat_d, Nat.zero_le, Nat.reduceAdd, Nat.reduceLeDiff, true_and, and_true, ykl_i, ykl_r, ykl_n, ykl_l]
end

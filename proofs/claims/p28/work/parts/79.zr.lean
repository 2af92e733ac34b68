/-! ===== loading and running, with what stays ===== -/
section
variable {d : Nat} {t u : yT} {D : yD} {k : Nat} {E : Nat → yD} {s0 s1 : Option yD} {n n0 : Nat} {B : Nat → Nat} {eo eo' en : Int32} {P : Nat → Prop}
theorem q_95x (C : yCI t D k E s0 s1 n0 B eo en) (hB : ∀ i, i < n0 → B i < 256) (hn : n ≤ n0) (Z : yZ t) (hz : t.z.1.1 < 898000) {q : Nat} {U : yU} (h : yrset n B = .inr (q, U)) : ∃ u, Ra (d + 17) 95 [.ref 0, .int (yI n)] (yemb t) (.inl (some (.int (yI U.1.n)))) (yemb u) ∧ (yCI u U.1 (min 8 (k + 1)) (ypush D E) s0 s1 0 B (-1) en ∧ (yFc t u ∧ yFg (fun a => a < 160) t u)) := by
  obtain ⟨w, hw, Tw, Zw, zw, w9, F⟩ := l_95s (d := d) C hB hn Z
  have H := m_21 (d := d) (z0 := t.z.1.1 + 1) (s0 := t.z.1.2) (by omega) Tw Zw (by rw [zw]; omega) (by rw [zw]; omega)
  rw [h] at H
  obtain ⟨v, hv, Cv, vj, Fv⟩ := H
  have Zz := yCs_zz Cv
  have F1 : yFg yPc t v := (yFg_fr F).trans Fv (fun a h => h.elim (fun h => Or.inl h) id)
  have F2 : yFg yPc t (v.s1 1 1 0) := F1.trans (yFg_fr (yFr_s1 (P := fun a => a = 1) rfl)) (fun a h => h.elim id (fun h => Or.inl h))
  have C2 : yCI (v.s1 1 1 0) D k E s0 s1 0 B eo en := yCI_g C F2 (fun a h => by omega) ⟨by decide, ys1_same, fun i hi => absurd hi (Nat.not_lt_zero _)⟩
  have e9 : (v.s1 1 1 0).A 1 9 = -1 := by rw [ys1_upd, yupd_ne (by decide), vj 9 (by decide)]; exact w9
  have F01 : yFr (fun a => a = 0 ∨ a = 1) v ((v.s1 1 1 0).s1 0 11 (-1)) := (yFr_s1 (P := fun a => a = 1) rfl).trans (yFr_s1 (P := fun a => a = 0) rfl) (fun a h => by omega)
  have W19 : yW ((v.s1 1 1 0).s1 0 11 (-1)) 19 U.1 := yW_fr Cv.2.1 F01 (fun a g1 g2 g3 => by omega)
  obtain ⟨x, hx, C3, F3⟩ := q_6 (d := d + 15) (yCI_eo C2 (x := -1))
  have W19x : yW x 19 U.1 := yW_fr W19 F3 (fun a g1 g2 (g3 : a = 38 ∨ (40 ≤ a ∧ a < 136)) => by omega)
  obtain ⟨y, hy, Wy, Fy⟩ := m_31' (d := d + 16) W19x yO_7 (by decide)
  have C4 : yCI y U.1 (min 8 (k + 1)) (ypush D E) s0 s1 0 B (-1) en := yCI_D C3 Fy (fun a (h : 7 ≤ a ∧ a ≤ 7 + 9) => by omega) Wy
  have FF : yFr (fun a => a < 160) v y := (F01.trans F3 (P'' := fun a => a < 160) (fun a h => by omega)).trans Fy (fun a h => by omega)
  have F5 : yFg (fun a => a < 160) t y := F1.trans (yFg_fr FF) (fun a h => h.elim (fun h => by omega) id)
  refine ⟨y, fun Q => ?_, C4, yFc_g F5 (yZ_fr Zz.1 FF) ⟨?_, ?_⟩, F5⟩
  · refine (hw Q).trans ((hv _).trans ?_)
    have g78 := m_78 (d := d + 16) (t := v)
    have g76 := m_76 (d := d + 16) (t := v.s1 1 1 0)
    rw [e9] at g76
    have c10 : ¬ (1 : Int32) = 0 := by decide
    simp only [s_95_0, s_95_1, s_95_2, s_95_3, s_95_4, s_95_5, s_95_6, s_95_7, s_95_8, s_95_8i, s_95_11, s_95_12, s_95_13, s_95_14, s_95_15, s_95_16, s_95_17, s_95_18, s_95_19, s_95_20, s_95_21, s_95_22, s_95_23, s_95_24, s_95_25, s_95_26, s_95_27, s_95_28, s_95_29, s_95_30, s_95_31, s_95_32, s_95_33, s_95_34, s_95_35, s_95_36, s_95_37, s_95_38, s_95_39, s_95_40, s_95_41, s_95_42, s_95_43, s_95_44, s_95_45, s_95_46, yO_0, yO_1, yO_7, yO_38, g78, g76, c10, ne_eq, not_false_eq_true, if_true, hx, hy, Wy.n, Gk_v, Gk_n, xcat_nil, xcat_i, xcat_r, xcat_l, xcat_d, Nat.zero_le, Nat.reduceAdd, Nat.reduceLeDiff, true_and, and_true, ykl_i, ykl_r, ykl_n, ykl_l]
  · rw [FF.z]
    have := Zz.2.1
    omega
  · rw [FF.z]
    have := Zz.2.2
    omega
end
section
variable {d : Nat} {t u : yT} {D D' : yD} {k : Nat} {E : Nat → yD} {s0 s1 : Option yD} {n n0 : Nat} {B : Nat → Nat} {eo eo' en en' : Int32} {P : Nat → Prop}
theorem q_96x (C : yCI t D k E s0 s1 n0 B eo en) (hB : ∀ i, i < n0 → B i < 256) (hn : n ≤ n0) (Z : yZ t) {q c : Nat} {T : yTb} (h : yrun n B = .inr (q, (c, T))) : ∃ u, Ra (d + 22) 96 [.ref 0, .int (yI n)] (yemb t) (.inl (some (.int (yI (yxK T 3 0 c (0, (D, 0))).2.2)))) (yemb u) ∧ (yCI u (yxK T 3 0 c (0, (D, 0))).2.1 (min 8 (k + 1)) (ypush D E) s0 s1 0 B (-1) (yI (yxK T 3 0 c (0, (D, 0))).1) ∧ yFr (fun a => a < 160) t u) := by
  obtain ⟨w, hw, Tw, Zw, w9, F⟩ := l_96s (d := d) C hB hn Z
  obtain ⟨hc60, hwf⟩ := yrun_ok h
  have H := m_12 (d := d + 7) Tw
  rw [h] at H
  obtain ⟨v, hv, ⟨⟨v6, v7, v8⟩, Gv⟩, vj, Fv⟩ := H
  have F1 : yFr (fun a => a = 1 ∨ (34 ≤ a ∧ a ≤ 37)) t v := F.trans Fv (fun a h => h.elim (fun h => Or.inl h) id)
  have F2 : yFr (fun a => a = 1 ∨ (34 ≤ a ∧ a ≤ 37)) t (v.s1 1 1 0) := F1.trans (yFr_s1 (P := fun a => a = 1) rfl) (fun a h => h.elim id (fun h => Or.inl h))
  have C2 : yCI (v.s1 1 1 0) D k E s0 s1 0 B eo en := yCI_g C (yFg_fr F2) (fun a h => by omega) ⟨by decide, ys1_same, fun i hi => absurd hi (Nat.not_lt_zero _)⟩
  have e9 : (v.s1 1 1 0).A 1 9 = -1 := by rw [ys1_upd, yupd_ne (by decide), vj 9 (by decide)]; exact w9
  have F01 : yFr (fun a => a = 0 ∨ a = 1) v ((v.s1 1 1 0).s1 0 11 (-1)) := (yFr_s1 (P := fun a => a = 1) rfl).trans (yFr_s1 (P := fun a => a = 0) rfl) (fun a h => by omega)
  obtain ⟨x, hx, C3, F3⟩ := q_6 (d := d + 20) (yCI_eo C2 (x := -1))
  have F4 : yFr (fun a => a = 0 ∨ (a = 1 ∨ (38 ≤ a ∧ a < 136))) v x := F01.trans F3 (fun a h => by omega)
  have Gx : yGc x 0 c T := yGc_fr Gv F4 (fun a h => by omega)
  have x34 : x.A 34 = v.A 34 := F4.A (by decide)
  have Px : yQe x T c (0, (D, 0)) := ⟨⟨C3.1, Gx, by rw [x34]; exact v7⟩, by rw [x34]; exact v8, Nat.zero_le 200, Nat.zero_le 3⟩
  obtain ⟨y, hy, Py, Ky⟩ := m_17K (d := d + 11) (cN := c) hc60 3 (Nat.le_refl _) x 0 c (0, (D, 0)) (Nat.le_refl _) hwf Px rfl
  generalize yxK T 3 0 c (0, (D, 0)) = X at *
  have C4 : yCI y X.2.1 (min 8 (k + 1)) (ypush D E) s0 s1 0 B (-1) en := yCI_D C3 Ky.2 (fun a h => by omega) Py.1.1
  have FF : yFr (fun a => a < 160) t (y.s1 0 12 (yI X.1)) := (((F1.trans F4 (P'' := fun a => a < 160) (fun a h => by omega)).trans Ky.2 (P'' := fun a => a < 160) (fun a h => by omega))).trans (yFr_s1 (P := fun a => a = 0) rfl) (fun a h => by omega)
  refine ⟨y.s1 0 12 (yI X.1), fun Q => ?_, yCI_en C4, FF⟩
  refine (hw Q).trans ((hv _).trans ?_)
  have g78 := m_78 (d := d + 21) (t := v)
  have g76 := m_76 (d := d + 21) (t := v.s1 1 1 0)
  rw [e9] at g76
  have c10 : ¬ (1 : Int32) = 0 := by decide
  have g9 := m_9 (d := d + 21) (t := x)
  rw [x34, v6] at g9
  have g11 := m_11 (d := d + 21) (t := y)
  rw [Py.2.1] at g11
  have g10 := m_10 (d := d + 21) (t := y.s1 0 12 (yI X.1))
  have e7 : (y.s1 0 12 (yI X.1)).A 34 7 = yI X.2.2 := by rw [ys1_ne (by decide)]; exact Py.1.2.2
  rw [e7] at g10
  have hy' : ∀ Q', Cl (d + 21) 17 [.ref 34, .int 0, .int (yI c), .int 0] (yemb x) Q' ↔ Q' _ _ := hy
  simp only [s_96_0, s_96_1, s_96_2, s_96_3, s_96_4, s_96_5, s_96_6, s_96_7, s_96_8, s_96_8i, s_96_11, s_96_12, s_96_13, s_96_14, s_96_15, s_96_16, s_96_17, s_96_18, s_96_19, s_96_20, s_96_21, s_96_22, s_96_23, s_96_24, s_96_25, s_96_26, s_96_27, s_96_28, s_96_29, s_96_30, s_96_31, s_96_32, s_96_33, s_96_34, s_96_35, s_96_36, s_96_37, s_96_38, s_96_39, s_96_40, s_96_41, s_96_42, s_96_43, s_96_44, s_96_45, s_96_46, s_96_46i, s_96_47, s_96_48, s_96_49, s_96_50, s_96_51, s_96_52, s_96_53, s_96_54, s_96_55, yO_0, yO_1, yO_7, yO_34, yO_38, g78, g76, c10, ne_eq, not_false_eq_true, if_true, hx, g9, hy', g11, g10, Gk_v, Gk_n, xcat_nil, xcat_i, xcat_r, xcat_l, xcat_d, Nat.zero_le, Nat.reduceAdd, Nat.reduceLeDiff, true_and, and_true, ykl_i, ykl_r, ykl_n, ykl_l]
end

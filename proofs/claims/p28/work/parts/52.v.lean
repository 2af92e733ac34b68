/-! ===== what is told: pixels, feeds, the state ===== -/
theorem yfew {x : Int32} {m : Nat} (hm : m < 2147483648) (h : decide ((0 : Int32) ≤ x ∧ x ≤ yI m) = false) : x.toInt < 0 ∨ m < x.toInt := by
  have h1 := of_decide_eq_false h
  by_cases h2 : x.toInt < 0
  · exact Or.inl h2
  · right
    have h3 : ¬ x ≤ yI m := fun h4 => h1 ⟨by rw [Int32.le_iff_toInt_le]; have e0 : (0 : Int32).toInt = 0 := rfl; omega, h4⟩
    rw [Int32.le_iff_toInt_le, yI_toInt hm] at h3
    omega
def ytP (D : yD) (p w : Nat) : Int32 := match w with
  | 0 => D.kd p
  | 1 => yb (D.bp p)
  | 2 => D.pd p
  | 3 => D.fr p
  | 4 => yshown D p
  | 5 => D.tk p
  | 6 => D.du p
  | 7 => D.og p
  | _ => D.fm p
def ytF' (D : yD) (g w : Nat) : Int32 := match w with
  | 0 => yI (D.fp g)
  | 1 => D.fl g
  | 2 => yload D g
  | _ => yI (ylast D g)
def ytS (D : yD) (w : Nat) : Int32 := match w with
  | 0 => yI D.n
  | 1 => D.un
  | 2 => D.lv
  | 3 => yI D.f
  | 4 => yI (ycn D.bp D.n)
  | 5 => D.sh
  | 6 => ywrongs D
  | 7 => ycurrent D
  | 8 => D.ac
  | _ => yI (ycn (yisbad D) D.n)
section
variable {d : Nat} {t : yT} {D : yD} {k : Nat} {E : Nat → yD} {s0 s1 : Option yD} {n : Nat} {B : Nat → Nat} {eo en : Int32}
theorem m_100 (W : yW t 7 D) {p w : Nat} (hp : p < D.n) (hc : yisp D (yI p) = true) (hw : w < 9) : Ra (d + 5) 100 [.ref 0, .int (yI p), .int (yI w)] (yemb t) (.inl (some (.int (ytP D p w)))) (yemb t) := by
  intro Q
  have hn40 := W.ok.n40
  have g1 := fun Q' => m_32' (d := d + 4) W (j := yI p) Q'
  have c3 : yix (yI p) 40 := yix_I (by omega) (by omega)
  have c4 : (yI p).toNatClampNeg = p := yI_clamp (by omega)
  have f1 : t.A 8 p = D.fm p := W.fm p (by omega)
  have f2 : t.A 9 p = D.du p := W.du p (by omega)
  have f3 : t.A 10 p = D.kd p := W.kd p (by omega)
  have f4 : t.A 11 p = D.pd p := W.pd p (by omega)
  have f5 : t.A 12 p = D.fr p := W.fr p (by omega)
  have f6 : t.A 13 p = D.tk p := W.tk p (by omega)
  have f7 : t.A 14 p = D.og p := W.og p (by omega)
  have g2 := fun Q' => m_34 (d := d + 3) (Q := Q') (t := t) (j := yI p) yO_7
  have g3 := W.bp p (by omega)
  have g4 := fun Q' => m_48 (d := d) (Q := Q') W (p := p) (by omega)
  show G (d + 5) 100 0 [some (.ref 0), some (.int (yI p)), some (.int (yI w))] [] (yemb t) Q ↔ _
  rcases (by omega : w = 0 ∨ w = 1 ∨ w = 2 ∨ w = 3 ∨ w = 4 ∨ w = 5 ∨ w = 6 ∨ w = 7 ∨ w = 8) with h | h | h | h | h | h | h | h | h <;> subst h
  · rw [show yI 0 = 0 from rfl]
    simp only [s_100_0, s_100_1, s_100_2, s_100_3, s_100_4, s_100_5, s_100_6, s_100_6i, s_100_9, s_100_10_0, s_100_10_1, s_100_10_2, s_100_10_3, s_100_10_4, s_100_10_5, s_100_10_6, s_100_10_7, s_100_10_8, s_100_10_d, s_100_11, s_100_12, s_100_13, s_100_14, s_100_15, s_100_16, s_100_17, s_100_18, s_100_19, s_100_20, s_100_21, s_100_22, s_100_23, s_100_24, s_100_25, s_100_26, s_100_27, s_100_28, s_100_29, s_100_30, s_100_31, s_100_32, s_100_33, s_100_34, s_100_35, s_100_36, s_100_37, s_100_38, s_100_39, s_100_40, s_100_41, s_100_42, s_100_43, s_100_44, s_100_45, s_100_46, s_100_47, s_100_48, s_100_49, s_100_50, s_100_51, s_100_52, s_100_53, s_100_54, s_100_55, s_100_56, s_100_57, s_100_58, s_100_59, s_100_60, s_100_61, s_100_62, s_100_63, s_100_64, s_100_65, s_100_66, s_100_67, s_100_68, s_100_68i, yO_0, yO_7, yA_10, yn_10, g1, hc, ifbn, if_true, c3, c4, f3, ytP, Gk_v, Gk_n, xcat_nil, xcat_i, xcat_r, xcat_l, xcat_d, Nat.zero_le, Nat.reduceAdd, Nat.reduceLeDiff, true_and, and_true, ykl_i, ykl_r, ykl_n, ykl_l]
  · rw [show yI 1 = 1 from rfl]
    cases hb : D.bp p
    · rw [hb] at g3
      simp only [s_100_0, s_100_1, s_100_2, s_100_3, s_100_4, s_100_5, s_100_6, s_100_6i, s_100_9, s_100_10_0, s_100_10_1, s_100_10_2, s_100_10_3, s_100_10_4, s_100_10_5, s_100_10_6, s_100_10_7, s_100_10_8, s_100_10_d, s_100_11, s_100_12, s_100_13, s_100_14, s_100_15, s_100_16, s_100_17, s_100_18, s_100_19, s_100_20, s_100_21, s_100_22, s_100_23, s_100_24, s_100_25, s_100_26, s_100_27, s_100_28, s_100_29, s_100_30, s_100_31, s_100_32, s_100_33, s_100_34, s_100_35, s_100_36, s_100_37, s_100_38, s_100_39, s_100_40, s_100_41, s_100_42, s_100_43, s_100_44, s_100_45, s_100_46, s_100_47, s_100_48, s_100_49, s_100_50, s_100_51, s_100_52, s_100_53, s_100_54, s_100_55, s_100_56, s_100_57, s_100_58, s_100_59, s_100_60, s_100_61, s_100_62, s_100_63, s_100_64, s_100_65, s_100_66, s_100_67, s_100_68, s_100_68i, yO_0, yO_7, g1, hc, ifbn, ifb, if_true, g2, g3, hb, Bool.false_eq_true, if_false, ytP, yb, yne10, ne_eq, not_false_eq_true, Gk_v, Gk_n, xcat_nil, xcat_i, xcat_r, xcat_l, xcat_d, Nat.zero_le, Nat.reduceAdd, Nat.reduceLeDiff, true_and, and_true, ykl_i, ykl_r, ykl_n, ykl_l]
    · rw [hb] at g3
      simp only [s_100_0, s_100_1, s_100_2, s_100_3, s_100_4, s_100_5, s_100_6, s_100_6i, s_100_9, s_100_10_0, s_100_10_1, s_100_10_2, s_100_10_3, s_100_10_4, s_100_10_5, s_100_10_6, s_100_10_7, s_100_10_8, s_100_10_d, s_100_11, s_100_12, s_100_13, s_100_14, s_100_15, s_100_16, s_100_17, s_100_18, s_100_19, s_100_20, s_100_21, s_100_22, s_100_23, s_100_24, s_100_25, s_100_26, s_100_27, s_100_28, s_100_29, s_100_30, s_100_31, s_100_32, s_100_33, s_100_34, s_100_35, s_100_36, s_100_37, s_100_38, s_100_39, s_100_40, s_100_41, s_100_42, s_100_43, s_100_44, s_100_45, s_100_46, s_100_47, s_100_48, s_100_49, s_100_50, s_100_51, s_100_52, s_100_53, s_100_54, s_100_55, s_100_56, s_100_57, s_100_58, s_100_59, s_100_60, s_100_61, s_100_62, s_100_63, s_100_64, s_100_65, s_100_66, s_100_67, s_100_68, s_100_68i, yO_0, yO_7, g1, hc, ifbn, ifb, if_true, g2, g3, hb, if_false, ytP, yb, yne10, ne_eq, not_false_eq_true, Gk_v, Gk_n, xcat_nil, xcat_i, xcat_r, xcat_l, xcat_d, Nat.zero_le, Nat.reduceAdd, Nat.reduceLeDiff, true_and, and_true, ykl_i, ykl_r, ykl_n, ykl_l]
  · rw [show yI 2 = 2 from rfl]
    simp only [s_100_0, s_100_1, s_100_2, s_100_3, s_100_4, s_100_5, s_100_6, s_100_6i, s_100_9, s_100_10_0, s_100_10_1, s_100_10_2, s_100_10_3, s_100_10_4, s_100_10_5, s_100_10_6, s_100_10_7, s_100_10_8, s_100_10_d, s_100_11, s_100_12, s_100_13, s_100_14, s_100_15, s_100_16, s_100_17, s_100_18, s_100_19, s_100_20, s_100_21, s_100_22, s_100_23, s_100_24, s_100_25, s_100_26, s_100_27, s_100_28, s_100_29, s_100_30, s_100_31, s_100_32, s_100_33, s_100_34, s_100_35, s_100_36, s_100_37, s_100_38, s_100_39, s_100_40, s_100_41, s_100_42, s_100_43, s_100_44, s_100_45, s_100_46, s_100_47, s_100_48, s_100_49, s_100_50, s_100_51, s_100_52, s_100_53, s_100_54, s_100_55, s_100_56, s_100_57, s_100_58, s_100_59, s_100_60, s_100_61, s_100_62, s_100_63, s_100_64, s_100_65, s_100_66, s_100_67, s_100_68, s_100_68i, yO_0, yO_7, yA_11, yn_11, g1, hc, ifbn, if_true, c3, c4, f4, ytP, Gk_v, Gk_n, xcat_nil, xcat_i, xcat_r, xcat_l, xcat_d, Nat.zero_le, Nat.reduceAdd, Nat.reduceLeDiff, true_and, and_true, ykl_i, ykl_r, ykl_n, ykl_l]
  · rw [show yI 3 = 3 from rfl]
    simp only [s_100_0, s_100_1, s_100_2, s_100_3, s_100_4, s_100_5, s_100_6, s_100_6i, s_100_9, s_100_10_0, s_100_10_1, s_100_10_2, s_100_10_3, s_100_10_4, s_100_10_5, s_100_10_6, s_100_10_7, s_100_10_8, s_100_10_d, s_100_11, s_100_12, s_100_13, s_100_14, s_100_15, s_100_16, s_100_17, s_100_18, s_100_19, s_100_20, s_100_21, s_100_22, s_100_23, s_100_24, s_100_25, s_100_26, s_100_27, s_100_28, s_100_29, s_100_30, s_100_31, s_100_32, s_100_33, s_100_34, s_100_35, s_100_36, s_100_37, s_100_38, s_100_39, s_100_40, s_100_41, s_100_42, s_100_43, s_100_44, s_100_45, s_100_46, s_100_47, s_100_48, s_100_49, s_100_50, s_100_51, s_100_52, s_100_53, s_100_54, s_100_55, s_100_56, s_100_57, s_100_58, s_100_59, s_100_60, s_100_61, s_100_62, s_100_63, s_100_64, s_100_65, s_100_66, s_100_67, s_100_68, s_100_68i, yO_0, yO_7, yA_12, yn_12, g1, hc, ifbn, if_true, c3, c4, f5, ytP, Gk_v, Gk_n, xcat_nil, xcat_i, xcat_r, xcat_l, xcat_d, Nat.zero_le, Nat.reduceAdd, Nat.reduceLeDiff, true_and, and_true, ykl_i, ykl_r, ykl_n, ykl_l]
  · rw [show yI 4 = 4 from rfl]
    simp only [s_100_0, s_100_1, s_100_2, s_100_3, s_100_4, s_100_5, s_100_6, s_100_6i, s_100_9, s_100_10_0, s_100_10_1, s_100_10_2, s_100_10_3, s_100_10_4, s_100_10_5, s_100_10_6, s_100_10_7, s_100_10_8, s_100_10_d, s_100_11, s_100_12, s_100_13, s_100_14, s_100_15, s_100_16, s_100_17, s_100_18, s_100_19, s_100_20, s_100_21, s_100_22, s_100_23, s_100_24, s_100_25, s_100_26, s_100_27, s_100_28, s_100_29, s_100_30, s_100_31, s_100_32, s_100_33, s_100_34, s_100_35, s_100_36, s_100_37, s_100_38, s_100_39, s_100_40, s_100_41, s_100_42, s_100_43, s_100_44, s_100_45, s_100_46, s_100_47, s_100_48, s_100_49, s_100_50, s_100_51, s_100_52, s_100_53, s_100_54, s_100_55, s_100_56, s_100_57, s_100_58, s_100_59, s_100_60, s_100_61, s_100_62, s_100_63, s_100_64, s_100_65, s_100_66, s_100_67, s_100_68, s_100_68i, yO_0, yO_7, g1, hc, ifbn, if_true, g4, ytP, Gk_v, Gk_n, xcat_nil, xcat_i, xcat_r, xcat_l, xcat_d, Nat.zero_le, Nat.reduceAdd, Nat.reduceLeDiff, true_and, and_true, ykl_i, ykl_r, ykl_n, ykl_l]
  · rw [show yI 5 = 5 from rfl]
    simp only [s_100_0, s_100_1, s_100_2, s_100_3, s_100_4, s_100_5, s_100_6, s_100_6i, s_100_9, s_100_10_0, s_100_10_1, s_100_10_2, s_100_10_3, s_100_10_4, s_100_10_5, s_100_10_6, s_100_10_7, s_100_10_8, s_100_10_d, s_100_11, s_100_12, s_100_13, s_100_14, s_100_15, s_100_16, s_100_17, s_100_18, s_100_19, s_100_20, s_100_21, s_100_22, s_100_23, s_100_24, s_100_25, s_100_26, s_100_27, s_100_28, s_100_29, s_100_30, s_100_31, s_100_32, s_100_33, s_100_34, s_100_35, s_100_36, s_100_37, s_100_38, s_100_39, s_100_40, s_100_41, s_100_42, s_100_43, s_100_44, s_100_45, s_100_46, s_100_47, s_100_48, s_100_49, s_100_50, s_100_51, s_100_52, s_100_53, s_100_54, s_100_55, s_100_56, s_100_57, s_100_58, s_100_59, s_100_60, s_100_61, s_100_62, s_100_63, s_100_64, s_100_65, s_100_66, s_100_67, s_100_68, s_100_68i, yO_0, yO_7, yA_13, yn_13, g1, hc, ifbn, if_true, c3, c4, f6, ytP, Gk_v, Gk_n, xcat_nil, xcat_i, xcat_r, xcat_l, xcat_d, Nat.zero_le, Nat.reduceAdd, Nat.reduceLeDiff, true_and, and_true, ykl_i, ykl_r, ykl_n, ykl_l]
  · rw [show yI 6 = 6 from rfl]
    simp only [s_100_0, s_100_1, s_100_2, s_100_3, s_100_4, s_100_5, s_100_6, s_100_6i, s_100_9, s_100_10_0, s_100_10_1, s_100_10_2, s_100_10_3, s_100_10_4, s_100_10_5, s_100_10_6, s_100_10_7, s_100_10_8, s_100_10_d, s_100_11, s_100_12, s_100_13, s_100_14, s_100_15, s_100_16, s_100_17, s_100_18, s_100_19, s_100_20, s_100_21, s_100_22, s_100_23, s_100_24, s_100_25, s_100_26, s_100_27, s_100_28, s_100_29, s_100_30, s_100_31, s_100_32, s_100_33, s_100_34, s_100_35, s_100_36, s_100_37, s_100_38, s_100_39, s_100_40, s_100_41, s_100_42, s_100_43, s_100_44, s_100_45, s_100_46, s_100_47, s_100_48, s_100_49, s_100_50, s_100_51, s_100_52, s_100_53, s_100_54, s_100_55, s_100_56, s_100_57, s_100_58, s_100_59, s_100_60, s_100_61, s_100_62, s_100_63, s_100_64, s_100_65, s_100_66, s_100_67, s_100_68, s_100_68i, yO_0, yO_7, yA_9, yn_9, g1, hc, ifbn, if_true, c3, c4, f2, ytP, Gk_v, Gk_n, xcat_nil, xcat_i, xcat_r, xcat_l, xcat_d, Nat.zero_le, Nat.reduceAdd, Nat.reduceLeDiff, true_and, and_true, ykl_i, ykl_r, ykl_n, ykl_l]
  · rw [show yI 7 = 7 from rfl]
    simp only [s_100_0, s_100_1, s_100_2, s_100_3, s_100_4, s_100_5, s_100_6, s_100_6i, s_100_9, s_100_10_0, s_100_10_1, s_100_10_2, s_100_10_3, s_100_10_4, s_100_10_5, s_100_10_6, s_100_10_7, s_100_10_8, s_100_10_d, s_100_11, s_100_12, s_100_13, s_100_14, s_100_15, s_100_16, s_100_17, s_100_18, s_100_19, s_100_20, s_100_21, s_100_22, s_100_23, s_100_24, s_100_25, s_100_26, s_100_27, s_100_28, s_100_29, s_100_30, s_100_31, s_100_32, s_100_33, s_100_34, s_100_35, s_100_36, s_100_37, s_100_38, s_100_39, s_100_40, s_100_41, s_100_42, s_100_43, s_100_44, s_100_45, s_100_46, s_100_47, s_100_48, s_100_49, s_100_50, s_100_51, s_100_52, s_100_53, s_100_54, s_100_55, s_100_56, s_100_57, s_100_58, s_100_59, s_100_60, s_100_61, s_100_62, s_100_63, s_100_64, s_100_65, s_100_66, s_100_67, s_100_68, s_100_68i, yO_0, yO_7, yA_14, yn_14, g1, hc, ifbn, if_true, c3, c4, f7, ytP, Gk_v, Gk_n, xcat_nil, xcat_i, xcat_r, xcat_l, xcat_d, Nat.zero_le, Nat.reduceAdd, Nat.reduceLeDiff, true_and, and_true, ykl_i, ykl_r, ykl_n, ykl_l]
  · rw [show yI 8 = 8 from rfl]
    simp only [s_100_0, s_100_1, s_100_2, s_100_3, s_100_4, s_100_5, s_100_6, s_100_6i, s_100_9, s_100_10_0, s_100_10_1, s_100_10_2, s_100_10_3, s_100_10_4, s_100_10_5, s_100_10_6, s_100_10_7, s_100_10_8, s_100_10_d, s_100_11, s_100_12, s_100_13, s_100_14, s_100_15, s_100_16, s_100_17, s_100_18, s_100_19, s_100_20, s_100_21, s_100_22, s_100_23, s_100_24, s_100_25, s_100_26, s_100_27, s_100_28, s_100_29, s_100_30, s_100_31, s_100_32, s_100_33, s_100_34, s_100_35, s_100_36, s_100_37, s_100_38, s_100_39, s_100_40, s_100_41, s_100_42, s_100_43, s_100_44, s_100_45, s_100_46, s_100_47, s_100_48, s_100_49, s_100_50, s_100_51, s_100_52, s_100_53, s_100_54, s_100_55, s_100_56, s_100_57, s_100_58, s_100_59, s_100_60, s_100_61, s_100_62, s_100_63, s_100_64, s_100_65, s_100_66, s_100_67, s_100_68, s_100_68i, yO_0, yO_7, yA_8, yn_8, g1, hc, ifbn, if_true, c3, c4, f1, ytP, Gk_v, Gk_n, xcat_nil, xcat_i, xcat_r, xcat_l, xcat_d, Nat.zero_le, Nat.reduceAdd, Nat.reduceLeDiff, true_and, and_true, ykl_i, ykl_r, ykl_n, ykl_l]
theorem m_101 (W : yW t 7 D) {g w : Nat} (hg : g < D.f) (hc : yisf D (yI g) = true) (hw : w < 4) : Ra (d + 4) 101 [.ref 0, .int (yI g), .int (yI w)] (yemb t) (.inl (some (.int (ytF' D g w)))) (yemb t) := by
  intro Q
  have hf6 := W.ok.f6
  have g1 := fun Q' => m_33' (d := d + 3) W (j := yI g) Q'
  have c3 : yix (yI g) 6 := yix_I (by omega) (by omega)
  have c4 : (yI g).toNatClampNeg = g := yI_clamp (by omega)
  have f1 : t.A 15 g = yI (D.fp g) := W.fp g hg
  have f2 : t.A 16 g = D.fl g := W.fl g hg
  have g4 := fun Q' => m_44 (d := d) (Q := Q') W hg
  have g5 := fun Q' => m_43 (d := d + 3) (Q := Q') W hg
  show G (d + 4) 101 0 [some (.ref 0), some (.int (yI g)), some (.int (yI w))] [] (yemb t) Q ↔ _
  rcases (by omega : w = 0 ∨ w = 1 ∨ w = 2 ∨ w = 3) with h | h | h | h <;> subst h
  · rw [show yI 0 = 0 from rfl]
    simp only [s_101_0, s_101_1, s_101_2, s_101_3, s_101_4, s_101_5, s_101_6, s_101_6i, s_101_9, s_101_10_0, s_101_10_1, s_101_10_2, s_101_10_3, s_101_10_d, s_101_11, s_101_12, s_101_13, s_101_14, s_101_15, s_101_16, s_101_17, s_101_18, s_101_19, s_101_20, s_101_21, s_101_22, s_101_23, s_101_24, s_101_25, s_101_26, s_101_27, s_101_28, s_101_29, s_101_30, s_101_31, s_101_32, s_101_33, s_101_34, s_101_34i, yO_0, yO_7, yA_15, yn_15, g1, hc, ifbn, if_true, c3, c4, f1, ytF', Gk_v, Gk_n, xcat_nil, xcat_i, xcat_r, xcat_l, xcat_d, Nat.zero_le, Nat.reduceAdd, Nat.reduceLeDiff, true_and, and_true, ykl_i, ykl_r, ykl_n, ykl_l]
  · rw [show yI 1 = 1 from rfl]
    simp only [s_101_0, s_101_1, s_101_2, s_101_3, s_101_4, s_101_5, s_101_6, s_101_6i, s_101_9, s_101_10_0, s_101_10_1, s_101_10_2, s_101_10_3, s_101_10_d, s_101_11, s_101_12, s_101_13, s_101_14, s_101_15, s_101_16, s_101_17, s_101_18, s_101_19, s_101_20, s_101_21, s_101_22, s_101_23, s_101_24, s_101_25, s_101_26, s_101_27, s_101_28, s_101_29, s_101_30, s_101_31, s_101_32, s_101_33, s_101_34, s_101_34i, yO_0, yO_7, yA_16, yn_16, g1, hc, ifbn, if_true, c3, c4, f2, ytF', Gk_v, Gk_n, xcat_nil, xcat_i, xcat_r, xcat_l, xcat_d, Nat.zero_le, Nat.reduceAdd, Nat.reduceLeDiff, true_and, and_true, ykl_i, ykl_r, ykl_n, ykl_l]
  · rw [show yI 2 = 2 from rfl]
    simp only [s_101_0, s_101_1, s_101_2, s_101_3, s_101_4, s_101_5, s_101_6, s_101_6i, s_101_9, s_101_10_0, s_101_10_1, s_101_10_2, s_101_10_3, s_101_10_d, s_101_11, s_101_12, s_101_13, s_101_14, s_101_15, s_101_16, s_101_17, s_101_18, s_101_19, s_101_20, s_101_21, s_101_22, s_101_23, s_101_24, s_101_25, s_101_26, s_101_27, s_101_28, s_101_29, s_101_30, s_101_31, s_101_32, s_101_33, s_101_34, s_101_34i, yO_0, yO_7, g1, hc, ifbn, if_true, g4, ytF', Gk_v, Gk_n, xcat_nil, xcat_i, xcat_r, xcat_l, xcat_d, Nat.zero_le, Nat.reduceAdd, Nat.reduceLeDiff, true_and, and_true, ykl_i, ykl_r, ykl_n, ykl_l]
  · rw [show yI 3 = 3 from rfl]
    simp only [s_101_0, s_101_1, s_101_2, s_101_3, s_101_4, s_101_5, s_101_6, s_101_6i, s_101_9, s_101_10_0, s_101_10_1, s_101_10_2, s_101_10_3, s_101_10_d, s_101_11, s_101_12, s_101_13, s_101_14, s_101_15, s_101_16, s_101_17, s_101_18, s_101_19, s_101_20, s_101_21, s_101_22, s_101_23, s_101_24, s_101_25, s_101_26, s_101_27, s_101_28, s_101_29, s_101_30, s_101_31, s_101_32, s_101_33, s_101_34, s_101_34i, yO_0, yO_7, g1, hc, ifbn, if_true, g5, ytF', Gk_v, Gk_n, xcat_nil, xcat_i, xcat_r, xcat_l, xcat_d, Nat.zero_le, Nat.reduceAdd, Nat.reduceLeDiff, true_and, and_true, ykl_i, ykl_r, ykl_n, ykl_l]
theorem m_99 (W : yW t 7 D) {w : Nat} (hw : w < 10) : Ra (d + 5) 99 [.ref 0, .int (yI w)] (yemb t) (.inl (some (.int (ytS D w)))) (yemb t) := by
  intro Q
  have hn40 := W.ok.n40
  have g6 := fun Q' => m_59 (d := d + 1) (Q := Q') W
  have g7 := fun Q' => m_50 (d := d) (Q := Q') W
  have g9 := fun Q' => m_37 (d := d + 4) W Q'
  have p40 : (2 : Nat) ^ D.n ≤ 2 ^ 40 := Nat.pow_le_pow_right (by decide) hn40
  have g4 := fun Q' => m_216 (d := d + 4) (σ := yemb t) (Q := Q') (w := D.bw) (by have := W.ok.bwn; omega)
  have g5 := fun Q' => m_216 (d := d + 4) (σ := yemb t) (Q := Q') (w := ybadset D) (by have := ybadset_lt W.ok; omega)
  rw [ybw_pc W.ok] at g4
  rw [ybadset_pc W.ok] at g5
  have e1 : (-1 : Int64) = Int64.ofNat 18446744073709551615 := rfl
  have e2 : yodd D.kd D.n &&& (D.bw ^^^ 18446744073709551615) = ybadset D := rfl
  show G (d + 5) 99 0 [some (.ref 0), some (.int (yI w))] [] (yemb t) Q ↔ _
  rcases (by omega : w = 0 ∨ w = 1 ∨ w = 2 ∨ w = 3 ∨ w = 4 ∨ w = 5 ∨ w = 6 ∨ w = 7 ∨ w = 8 ∨ w = 9) with h | h | h | h | h | h | h | h | h | h <;> subst h
  · rw [show yI 0 = 0 from rfl]
    simp only [s_99_0, s_99_1_0, s_99_1_1, s_99_1_2, s_99_1_3, s_99_1_4, s_99_1_5, s_99_1_6, s_99_1_7, s_99_1_8, s_99_1_9, s_99_1_d, s_99_2, s_99_3, s_99_4, s_99_5, s_99_6, s_99_7, s_99_8, s_99_9, s_99_10, s_99_11, s_99_12, s_99_13, s_99_14, s_99_15, s_99_16, s_99_17, s_99_18, s_99_19, s_99_20, s_99_21, s_99_22, s_99_23, s_99_24, s_99_25, s_99_26, s_99_27, s_99_28, s_99_29, s_99_30, s_99_31, s_99_32, s_99_33, s_99_34, s_99_35, s_99_36, s_99_37, s_99_38, s_99_39, s_99_40, s_99_41, s_99_42, s_99_43, s_99_44, s_99_45, s_99_46, s_99_47, s_99_48, s_99_49, s_99_50, s_99_51, s_99_51i, yO_0, yO_7, W.n, ytS, Gk_v, Gk_n, xcat_nil, xcat_i, xcat_r, xcat_l, xcat_d, Nat.zero_le, Nat.reduceAdd, Nat.reduceLeDiff, true_and, and_true, ykl_i, ykl_r, ykl_n, ykl_l]
  · rw [show yI 1 = 1 from rfl]
    simp only [s_99_0, s_99_1_0, s_99_1_1, s_99_1_2, s_99_1_3, s_99_1_4, s_99_1_5, s_99_1_6, s_99_1_7, s_99_1_8, s_99_1_9, s_99_1_d, s_99_2, s_99_3, s_99_4, s_99_5, s_99_6, s_99_7, s_99_8, s_99_9, s_99_10, s_99_11, s_99_12, s_99_13, s_99_14, s_99_15, s_99_16, s_99_17, s_99_18, s_99_19, s_99_20, s_99_21, s_99_22, s_99_23, s_99_24, s_99_25, s_99_26, s_99_27, s_99_28, s_99_29, s_99_30, s_99_31, s_99_32, s_99_33, s_99_34, s_99_35, s_99_36, s_99_37, s_99_38, s_99_39, s_99_40, s_99_41, s_99_42, s_99_43, s_99_44, s_99_45, s_99_46, s_99_47, s_99_48, s_99_49, s_99_50, s_99_51, s_99_51i, yO_0, yO_7, W.un, ytS, Gk_v, Gk_n, xcat_nil, xcat_i, xcat_r, xcat_l, xcat_d, Nat.zero_le, Nat.reduceAdd, Nat.reduceLeDiff, true_and, and_true, ykl_i, ykl_r, ykl_n, ykl_l]
  · rw [show yI 2 = 2 from rfl]
    simp only [s_99_0, s_99_1_0, s_99_1_1, s_99_1_2, s_99_1_3, s_99_1_4, s_99_1_5, s_99_1_6, s_99_1_7, s_99_1_8, s_99_1_9, s_99_1_d, s_99_2, s_99_3, s_99_4, s_99_5, s_99_6, s_99_7, s_99_8, s_99_9, s_99_10, s_99_11, s_99_12, s_99_13, s_99_14, s_99_15, s_99_16, s_99_17, s_99_18, s_99_19, s_99_20, s_99_21, s_99_22, s_99_23, s_99_24, s_99_25, s_99_26, s_99_27, s_99_28, s_99_29, s_99_30, s_99_31, s_99_32, s_99_33, s_99_34, s_99_35, s_99_36, s_99_37, s_99_38, s_99_39, s_99_40, s_99_41, s_99_42, s_99_43, s_99_44, s_99_45, s_99_46, s_99_47, s_99_48, s_99_49, s_99_50, s_99_51, s_99_51i, yO_0, yO_7, W.lv, ytS, Gk_v, Gk_n, xcat_nil, xcat_i, xcat_r, xcat_l, xcat_d, Nat.zero_le, Nat.reduceAdd, Nat.reduceLeDiff, true_and, and_true, ykl_i, ykl_r, ykl_n, ykl_l]
  · rw [show yI 3 = 3 from rfl]
    simp only [s_99_0, s_99_1_0, s_99_1_1, s_99_1_2, s_99_1_3, s_99_1_4, s_99_1_5, s_99_1_6, s_99_1_7, s_99_1_8, s_99_1_9, s_99_1_d, s_99_2, s_99_3, s_99_4, s_99_5, s_99_6, s_99_7, s_99_8, s_99_9, s_99_10, s_99_11, s_99_12, s_99_13, s_99_14, s_99_15, s_99_16, s_99_17, s_99_18, s_99_19, s_99_20, s_99_21, s_99_22, s_99_23, s_99_24, s_99_25, s_99_26, s_99_27, s_99_28, s_99_29, s_99_30, s_99_31, s_99_32, s_99_33, s_99_34, s_99_35, s_99_36, s_99_37, s_99_38, s_99_39, s_99_40, s_99_41, s_99_42, s_99_43, s_99_44, s_99_45, s_99_46, s_99_47, s_99_48, s_99_49, s_99_50, s_99_51, s_99_51i, yO_0, yO_7, W.f, ytS, Gk_v, Gk_n, xcat_nil, xcat_i, xcat_r, xcat_l, xcat_d, Nat.zero_le, Nat.reduceAdd, Nat.reduceLeDiff, true_and, and_true, ykl_i, ykl_r, ykl_n, ykl_l]
  · rw [show yI 4 = 4 from rfl]
    simp only [s_99_0, s_99_1_0, s_99_1_1, s_99_1_2, s_99_1_3, s_99_1_4, s_99_1_5, s_99_1_6, s_99_1_7, s_99_1_8, s_99_1_9, s_99_1_d, s_99_2, s_99_3, s_99_4, s_99_5, s_99_6, s_99_7, s_99_8, s_99_9, s_99_10, s_99_11, s_99_12, s_99_13, s_99_14, s_99_15, s_99_16, s_99_17, s_99_18, s_99_19, s_99_20, s_99_21, s_99_22, s_99_23, s_99_24, s_99_25, s_99_26, s_99_27, s_99_28, s_99_29, s_99_30, s_99_31, s_99_32, s_99_33, s_99_34, s_99_35, s_99_36, s_99_37, s_99_38, s_99_39, s_99_40, s_99_41, s_99_42, s_99_43, s_99_44, s_99_45, s_99_46, s_99_47, s_99_48, s_99_49, s_99_50, s_99_51, s_99_51i, yO_0, yO_7, W.bw, g4, ytS, Gk_v, Gk_n, xcat_nil, xcat_i, xcat_r, xcat_l, xcat_d, Nat.zero_le, Nat.reduceAdd, Nat.reduceLeDiff, true_and, and_true, ykl_i, ykl_r, ykl_n, ykl_l]
  · rw [show yI 5 = 5 from rfl]
    simp only [s_99_0, s_99_1_0, s_99_1_1, s_99_1_2, s_99_1_3, s_99_1_4, s_99_1_5, s_99_1_6, s_99_1_7, s_99_1_8, s_99_1_9, s_99_1_d, s_99_2, s_99_3, s_99_4, s_99_5, s_99_6, s_99_7, s_99_8, s_99_9, s_99_10, s_99_11, s_99_12, s_99_13, s_99_14, s_99_15, s_99_16, s_99_17, s_99_18, s_99_19, s_99_20, s_99_21, s_99_22, s_99_23, s_99_24, s_99_25, s_99_26, s_99_27, s_99_28, s_99_29, s_99_30, s_99_31, s_99_32, s_99_33, s_99_34, s_99_35, s_99_36, s_99_37, s_99_38, s_99_39, s_99_40, s_99_41, s_99_42, s_99_43, s_99_44, s_99_45, s_99_46, s_99_47, s_99_48, s_99_49, s_99_50, s_99_51, s_99_51i, yO_0, yO_7, W.sh, ytS, Gk_v, Gk_n, xcat_nil, xcat_i, xcat_r, xcat_l, xcat_d, Nat.zero_le, Nat.reduceAdd, Nat.reduceLeDiff, true_and, and_true, ykl_i, ykl_r, ykl_n, ykl_l]
  · rw [show yI 6 = 6 from rfl]
    simp only [s_99_0, s_99_1_0, s_99_1_1, s_99_1_2, s_99_1_3, s_99_1_4, s_99_1_5, s_99_1_6, s_99_1_7, s_99_1_8, s_99_1_9, s_99_1_d, s_99_2, s_99_3, s_99_4, s_99_5, s_99_6, s_99_7, s_99_8, s_99_9, s_99_10, s_99_11, s_99_12, s_99_13, s_99_14, s_99_15, s_99_16, s_99_17, s_99_18, s_99_19, s_99_20, s_99_21, s_99_22, s_99_23, s_99_24, s_99_25, s_99_26, s_99_27, s_99_28, s_99_29, s_99_30, s_99_31, s_99_32, s_99_33, s_99_34, s_99_35, s_99_36, s_99_37, s_99_38, s_99_39, s_99_40, s_99_41, s_99_42, s_99_43, s_99_44, s_99_45, s_99_46, s_99_47, s_99_48, s_99_49, s_99_50, s_99_51, s_99_51i, yO_0, yO_7, g6, ytS, Gk_v, Gk_n, xcat_nil, xcat_i, xcat_r, xcat_l, xcat_d, Nat.zero_le, Nat.reduceAdd, Nat.reduceLeDiff, true_and, and_true, ykl_i, ykl_r, ykl_n, ykl_l]
  · rw [show yI 7 = 7 from rfl]
    simp only [s_99_0, s_99_1_0, s_99_1_1, s_99_1_2, s_99_1_3, s_99_1_4, s_99_1_5, s_99_1_6, s_99_1_7, s_99_1_8, s_99_1_9, s_99_1_d, s_99_2, s_99_3, s_99_4, s_99_5, s_99_6, s_99_7, s_99_8, s_99_9, s_99_10, s_99_11, s_99_12, s_99_13, s_99_14, s_99_15, s_99_16, s_99_17, s_99_18, s_99_19, s_99_20, s_99_21, s_99_22, s_99_23, s_99_24, s_99_25, s_99_26, s_99_27, s_99_28, s_99_29, s_99_30, s_99_31, s_99_32, s_99_33, s_99_34, s_99_35, s_99_36, s_99_37, s_99_38, s_99_39, s_99_40, s_99_41, s_99_42, s_99_43, s_99_44, s_99_45, s_99_46, s_99_47, s_99_48, s_99_49, s_99_50, s_99_51, s_99_51i, yO_0, yO_7, g7, ytS, Gk_v, Gk_n, xcat_nil, xcat_i, xcat_r, xcat_l, xcat_d, Nat.zero_le, Nat.reduceAdd, Nat.reduceLeDiff, true_and, and_true, ykl_i, ykl_r, ykl_n, ykl_l]
  · rw [show yI 8 = 8 from rfl]
    simp only [s_99_0, s_99_1_0, s_99_1_1, s_99_1_2, s_99_1_3, s_99_1_4, s_99_1_5, s_99_1_6, s_99_1_7, s_99_1_8, s_99_1_9, s_99_1_d, s_99_2, s_99_3, s_99_4, s_99_5, s_99_6, s_99_7, s_99_8, s_99_9, s_99_10, s_99_11, s_99_12, s_99_13, s_99_14, s_99_15, s_99_16, s_99_17, s_99_18, s_99_19, s_99_20, s_99_21, s_99_22, s_99_23, s_99_24, s_99_25, s_99_26, s_99_27, s_99_28, s_99_29, s_99_30, s_99_31, s_99_32, s_99_33, s_99_34, s_99_35, s_99_36, s_99_37, s_99_38, s_99_39, s_99_40, s_99_41, s_99_42, s_99_43, s_99_44, s_99_45, s_99_46, s_99_47, s_99_48, s_99_49, s_99_50, s_99_51, s_99_51i, yO_0, yO_7, W.ac, ytS, Gk_v, Gk_n, xcat_nil, xcat_i, xcat_r, xcat_l, xcat_d, Nat.zero_le, Nat.reduceAdd, Nat.reduceLeDiff, true_and, and_true, ykl_i, ykl_r, ykl_n, ykl_l]
  · rw [show yI 9 = 9 from rfl]
    simp only [s_99_0, s_99_1_0, s_99_1_1, s_99_1_2, s_99_1_3, s_99_1_4, s_99_1_5, s_99_1_6, s_99_1_7, s_99_1_8, s_99_1_9, s_99_1_d, s_99_2, s_99_3, s_99_4, s_99_5, s_99_6, s_99_7, s_99_8, s_99_9, s_99_10, s_99_11, s_99_12, s_99_13, s_99_14, s_99_15, s_99_16, s_99_17, s_99_18, s_99_19, s_99_20, s_99_21, s_99_22, s_99_23, s_99_24, s_99_25, s_99_26, s_99_27, s_99_28, s_99_29, s_99_30, s_99_31, s_99_32, s_99_33, s_99_34, s_99_35, s_99_36, s_99_37, s_99_38, s_99_39, s_99_40, s_99_41, s_99_42, s_99_43, s_99_44, s_99_45, s_99_46, s_99_47, s_99_48, s_99_49, s_99_50, s_99_51, s_99_51i, yO_0, yO_7, g9, W.bw, e1, yL_xor, yL_and, e2, g5, ytS, Gk_v, Gk_n, xcat_nil, xcat_i, xcat_r, xcat_l, xcat_d, Nat.zero_le, Nat.reduceAdd, Nat.reduceLeDiff, true_and, and_true, ykl_i, ykl_r, ykl_n, ykl_l]
end

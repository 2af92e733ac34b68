/-! ===== the plan: the class's half ===== -/
theorem ytk_tk {r : Nat → Int32} {q : Nat} : ∀ n p (X : yD), p ≤ q → q < p + n → (ytk r n p X).tk q = if r q < 0 then X.tk q else if X.kd q = 1 then X.tk q else X.du (r q).toNatClampNeg := by
  have lo : ∀ n p (X : yD), q < p → (ytk r n p X).tk q = X.tk q := by
    intro n
    induction n with
    | zero => intro p X _; rfl
    | succ n ih =>
      intro p X h
      rw [ytk]
      split
      · exact ih _ _ (by omega)
      · split
        · rw [ih _ _ (by omega), ysfr_tk]
        · rw [ih _ _ (by omega), ytkS_tk, yupd_ne (by omega)]
  intro n
  induction n with
  | zero => intro p X h1 h2; omega
  | succ n ih =>
    intro p X h1 h2
    rw [ytk]
    by_cases e : q = p
    · rw [← e]
      split
      · exact lo _ _ _ (by omega)
      · split
        · rw [lo _ _ _ (by omega), ysfr_tk]
        · rw [lo _ _ _ (by omega), ytkS_tk, yupd_same]
    · split
      · exact ih _ _ (by omega) (by omega)
      · split
        · rw [ih _ _ (by omega) (by omega), ysfr_tk, ysfr_kd, ysfr_du]
        · rw [ih _ _ (by omega) (by omega), ytkS_tk, ytkS_kd, ytkS_du, yupd_ne e]
/-- what a pixel would have with the set X left out, and how many would be wrong -/
def ycl (Y : yD) (X p : Nat) : Int32 := if yrow Y X.testBit p < 0 then Y.tk p else Y.du (yrow Y X.testBit p).toNatClampNeg
def ycwp (Y : yD) (X p : Nat) : Bool := !X.testBit p && (yout Y p || ycl Y X p != Y.du p)
def ycw (Y : yD) (X : Nat) : Int32 := yfold (fun p a => if ycwp Y X p = true then a + 1 else a) Y.n 0 0
theorem ydue_sbw {D : yD} {X : Nat} : ydue (D.sbw X) = (ydue D).sbw X := by
  rw [ydue_eq, ydue_eq, ysbw_n, ysbw_cn, ysbw_cg, ysbw_fm, ysbw_du]
  have e : yll (D.sbw X) = yll D := by
    unfold yll
    rw [ysbw_lv]
  rw [e]
  rfl
theorem ycw_eq {D : yD} (h : yDok D) {X : Nat} (hX : X < 2 ^ D.n) : ywrongs (ypassD (ydue (D.sbw X))) = ycw (ydue D) X := by
  rw [ydue_sbw]
  have hY := ydue_ok h
  have hn : (ydue D).n = D.n := by rw [ydue_eq, ysdu_n]
  generalize ydue D = Y at *
  have hZ : yDok (Y.sbw X) := yDok_sbw hY (by rw [hn]; exact hX)
  obtain ⟨h1, -, -, -, h5, h6, -, h8, -⟩ := ypassD_same (Y.sbw X)
  have h9 : ∀ p, p < Y.n → (ypassD (Y.sbw X)).tk p = if yrow Y X.testBit p < 0 then Y.tk p else if Y.kd p = 1 then Y.tk p else Y.du (yrow Y X.testBit p).toNatClampNeg := by
    intro p hp
    rw [← ytaken_go hZ]
    unfold ytaken
    rw [ytk_tk _ 0 _ (Nat.zero_le _) (by rw [ysbw_n]; omega)]
    have e : yrow (Y.sbw X) (Y.sbw X).bp = yrow Y X.testBit := by
      have eb : (Y.sbw X).bp = X.testBit := rfl
      rw [eb]
      exact yrow_same rfl rfl rfl rfl
    rw [e, ysbw_tk, ysbw_kd, ysbw_du]
  unfold ywrongs ycw
  rw [h1, ysbw_n]
  apply yfold_congr
  intro p a _ hp
  have hw : ywrong (ypassD (Y.sbw X)) p = ycwp Y X p := by
    unfold ywrong ycwp yout ycl yD.bp
    rw [h5, h6, h8, h9 p (by omega), ysbw_bw, ysbw_kd, ysbw_du]
    by_cases hk : Y.kd p = 1
    · rw [hk]
      rfl
    · rw [if_neg hk]
  simp only [hw]
section
variable {d o : Nat}
theorem l_60 {t : yT} {Y : yD} {X : Nat} (W : yW t o Y) (hX : X < 2 ^ Y.n) (hr : ∀ p, p < Y.n → t.A (o + 10) p = yrow Y X.testBit p) : ∀ m p a l5, p + m = Y.n → Ga (d + 3) 60 7 [some (.ref o), some (.long (Int64.ofNat X)), none, some (.int a), some (.int (yI p)), l5] [] (yemb t) (.inl (some (.int (yfold (fun p a => if ycwp Y X p = true then a + 1 else a) m p a)))) (yemb t) := by
  have hn40 := W.ok.n40
  have hX2 : X < 2 ^ 63 := Nat.lt_of_lt_of_le hX (Nat.pow_le_pow_right (by decide) (by omega))
  intro m
  induction m with
  | zero =>
    intro p a l5 hp Q
    have h1 : yI Y.n ≤ yI p := (yI_le (by omega) (by omega)).mpr (by omega)
    rw [s_60_7]
    simp only [s_60_0, s_60_1, s_60_2, s_60_3, s_60_4, s_60_5, s_60_6, s_60_8, s_60_9, s_60_10, s_60_11, s_60_12, s_60_13, s_60_14, s_60_15, s_60_16, s_60_17, s_60_18, s_60_19, s_60_20, s_60_21, s_60_22, s_60_23, s_60_24, s_60_25, s_60_26, s_60_27, s_60_28, s_60_29, s_60_30, s_60_31, s_60_32, s_60_33, s_60_34, s_60_35, s_60_36, s_60_37, s_60_38, s_60_39, s_60_40, s_60_41, s_60_42, s_60_43, s_60_44, s_60_45, s_60_46, s_60_47, W.oo, W.n, h1, if_true, yfold]
  | succ m ih =>
    intro p a l5 hp Q
    have h1 : ¬ yI Y.n ≤ yI p := fun h => absurd ((yI_le (by omega) (by omega)).mp h) (by omega)
    have h2 : yix (yI p) 40 := yix_I (by omega) (by omega)
    have h3 : (yI p).toNatClampNeg = p := yI_clamp (by omega)
    have h4 : yI p + 1 = yI (p + 1) := yI_add
    have hrp := hr p (by omega)
    have hb0 := yin_nat (p := p) hX2 (by omega)
    have g58 := fun Q' => m_58 (d := d + 2) (Q := Q') W (show p < 40 by omega)
    have hw : ycwp Y X p = (!X.testBit p && (yout Y p || ycl Y X p != Y.du p)) := rfl
    rw [s_60_7]
    cases hb : X.testBit p
    · rcases yrow_val (b := X.testBit) hn40 (show p < Y.n by omega) with hq | ⟨q, hq, hrq⟩
      · have hneg : yrow Y X.testBit p < 0 := by
          rw [hq]
          decide
        have hc : ycl Y X p = Y.tk p := by rw [ycl, if_pos hneg]
        rw [hb, hc] at hw
        cases ho : yout Y p
        · by_cases he : Y.tk p = Y.du p
          · simp only [s_60_0, s_60_1, s_60_2, s_60_3, s_60_4, s_60_5, s_60_6, s_60_8, s_60_9, s_60_10, s_60_11, s_60_12, s_60_13, s_60_14, s_60_15, s_60_16, s_60_17, s_60_18, s_60_19, s_60_20, s_60_21, s_60_22, s_60_23, s_60_24, s_60_25, s_60_26, s_60_27, s_60_28, s_60_29, s_60_30, s_60_31, s_60_32, s_60_33, s_60_34, s_60_35, s_60_36, s_60_37, s_60_38, s_60_39, s_60_40, s_60_41, s_60_42, s_60_43, s_60_44, s_60_45, s_60_46, s_60_47, W.oo, W.n, h1, if_true, if_false, m_64, hb0, hb, ifbn, yAs_10 W.oo, yns_10 W.oo, h2, h3, hrp, hneg, yAs_2 W.oo, yns_2 W.oo, yAs_6 W.oo, yns_6 W.oo, W.tk p (show p < 40 by omega), W.du p (show p < 40 by omega), he, g58, ho, Bool.false_eq_true, h4, ih (p + 1) _ _ (show p + 1 + m = Y.n by omega), yfold, hw, Bool.not_false, Bool.true_and, Bool.false_or, bne_self_eq_false, Gk_v, Gk_n, xcat_nil, xcat_i, xcat_r, xcat_l, xcat_d, Nat.zero_le, Nat.reduceAdd, Nat.reduceLeDiff, true_and, and_true, ykl_i, ykl_r, ykl_n, ykl_l]
          · have he' : (Y.tk p != Y.du p) = true := bne_iff_ne.mpr he
            simp only [s_60_0, s_60_1, s_60_2, s_60_3, s_60_4, s_60_5, s_60_6, s_60_8, s_60_9, s_60_10, s_60_11, s_60_12, s_60_13, s_60_14, s_60_15, s_60_16, s_60_17, s_60_18, s_60_19, s_60_20, s_60_21, s_60_22, s_60_23, s_60_24, s_60_25, s_60_26, s_60_27, s_60_28, s_60_29, s_60_30, s_60_31, s_60_32, s_60_33, s_60_34, s_60_35, s_60_36, s_60_37, s_60_38, s_60_39, s_60_40, s_60_41, s_60_42, s_60_43, s_60_44, s_60_45, s_60_46, s_60_47, W.oo, W.n, h1, if_true, if_false, m_64, hb0, hb, ifbn, yAs_10 W.oo, yns_10 W.oo, h2, h3, hrp, hneg, yAs_2 W.oo, yns_2 W.oo, yAs_6 W.oo, yns_6 W.oo, W.tk p (show p < 40 by omega), W.du p (show p < 40 by omega), he, g58, ho, Bool.false_eq_true, h4, ih (p + 1) _ _ (show p + 1 + m = Y.n by omega), yfold, hw, Bool.not_false, Bool.true_and, Bool.false_or, he', Gk_v, Gk_n, xcat_nil, xcat_i, xcat_r, xcat_l, xcat_d, Nat.zero_le, Nat.reduceAdd, Nat.reduceLeDiff, true_and, and_true, ykl_i, ykl_r, ykl_n, ykl_l]
        · simp only [s_60_0, s_60_1, s_60_2, s_60_3, s_60_4, s_60_5, s_60_6, s_60_8, s_60_9, s_60_10, s_60_11, s_60_12, s_60_13, s_60_14, s_60_15, s_60_16, s_60_17, s_60_18, s_60_19, s_60_20, s_60_21, s_60_22, s_60_23, s_60_24, s_60_25, s_60_26, s_60_27, s_60_28, s_60_29, s_60_30, s_60_31, s_60_32, s_60_33, s_60_34, s_60_35, s_60_36, s_60_37, s_60_38, s_60_39, s_60_40, s_60_41, s_60_42, s_60_43, s_60_44, s_60_45, s_60_46, s_60_47, W.oo, W.n, h1, if_true, if_false, m_64, hb0, hb, ifbn, yAs_10 W.oo, yns_10 W.oo, h2, h3, hrp, hneg, yAs_2 W.oo, yns_2 W.oo, yAs_6 W.oo, yns_6 W.oo, W.tk p (show p < 40 by omega), W.du p (show p < 40 by omega), g58, ho, Bool.false_eq_true, h4, ih (p + 1) _ _ (show p + 1 + m = Y.n by omega), yfold, hw, ho, Bool.not_false, Bool.true_and, Bool.true_or, Gk_v, Gk_n, xcat_nil, xcat_i, xcat_r, xcat_l, xcat_d, Nat.zero_le, Nat.reduceAdd, Nat.reduceLeDiff, true_and, and_true, ykl_i, ykl_r, ykl_n, ykl_l]
      · have hneg : ¬ yrow Y X.testBit p < 0 := by
          rw [hrq]
          exact yI_nneg (by omega)
        have hc : ycl Y X p = Y.du q := by rw [ycl, if_neg hneg, hrq, yI_clamp (by omega)]
        have h5 : yix (yI q) 40 := yix_I (by omega) (by omega)
        have h6 : (yI q).toNatClampNeg = q := yI_clamp (by omega)
        rw [hrq] at hneg
        rw [hrq] at hrp
        rw [hb, hc] at hw
        cases ho : yout Y p
        · by_cases he : Y.du q = Y.du p
          · simp only [s_60_0, s_60_1, s_60_2, s_60_3, s_60_4, s_60_5, s_60_6, s_60_8, s_60_9, s_60_10, s_60_11, s_60_12, s_60_13, s_60_14, s_60_15, s_60_16, s_60_17, s_60_18, s_60_19, s_60_20, s_60_21, s_60_22, s_60_23, s_60_24, s_60_25, s_60_26, s_60_27, s_60_28, s_60_29, s_60_30, s_60_31, s_60_32, s_60_33, s_60_34, s_60_35, s_60_36, s_60_37, s_60_38, s_60_39, s_60_40, s_60_41, s_60_42, s_60_43, s_60_44, s_60_45, s_60_46, s_60_47, W.oo, W.n, h1, if_true, if_false, m_64, hb0, hb, ifbn, yAs_10 W.oo, yns_10 W.oo, h2, h3, h5, h6, hrp, hneg, yAs_2 W.oo, yns_2 W.oo, yAs_6 W.oo, yns_6 W.oo, W.du q hq, W.du p (show p < 40 by omega), he, g58, ho, Bool.false_eq_true, h4, ih (p + 1) _ _ (show p + 1 + m = Y.n by omega), yfold, hw, Bool.not_false, Bool.true_and, Bool.false_or, bne_self_eq_false, Gk_v, Gk_n, xcat_nil, xcat_i, xcat_r, xcat_l, xcat_d, Nat.zero_le, Nat.reduceAdd, Nat.reduceLeDiff, true_and, and_true, ykl_i, ykl_r, ykl_n, ykl_l]
          · have he' : (Y.du q != Y.du p) = true := bne_iff_ne.mpr he
            simp only [s_60_0, s_60_1, s_60_2, s_60_3, s_60_4, s_60_5, s_60_6, s_60_8, s_60_9, s_60_10, s_60_11, s_60_12, s_60_13, s_60_14, s_60_15, s_60_16, s_60_17, s_60_18, s_60_19, s_60_20, s_60_21, s_60_22, s_60_23, s_60_24, s_60_25, s_60_26, s_60_27, s_60_28, s_60_29, s_60_30, s_60_31, s_60_32, s_60_33, s_60_34, s_60_35, s_60_36, s_60_37, s_60_38, s_60_39, s_60_40, s_60_41, s_60_42, s_60_43, s_60_44, s_60_45, s_60_46, s_60_47, W.oo, W.n, h1, if_true, if_false, m_64, hb0, hb, ifbn, yAs_10 W.oo, yns_10 W.oo, h2, h3, h5, h6, hrp, hneg, yAs_2 W.oo, yns_2 W.oo, yAs_6 W.oo, yns_6 W.oo, W.du q hq, W.du p (show p < 40 by omega), he, g58, ho, Bool.false_eq_true, h4, ih (p + 1) _ _ (show p + 1 + m = Y.n by omega), yfold, hw, Bool.not_false, Bool.true_and, Bool.false_or, he', Gk_v, Gk_n, xcat_nil, xcat_i, xcat_r, xcat_l, xcat_d, Nat.zero_le, Nat.reduceAdd, Nat.reduceLeDiff, true_and, and_true, ykl_i, ykl_r, ykl_n, ykl_l]
        · simp only [s_60_0, s_60_1, s_60_2, s_60_3, s_60_4, s_60_5, s_60_6, s_60_8, s_60_9, s_60_10, s_60_11, s_60_12, s_60_13, s_60_14, s_60_15, s_60_16, s_60_17, s_60_18, s_60_19, s_60_20, s_60_21, s_60_22, s_60_23, s_60_24, s_60_25, s_60_26, s_60_27, s_60_28, s_60_29, s_60_30, s_60_31, s_60_32, s_60_33, s_60_34, s_60_35, s_60_36, s_60_37, s_60_38, s_60_39, s_60_40, s_60_41, s_60_42, s_60_43, s_60_44, s_60_45, s_60_46, s_60_47, W.oo, W.n, h1, if_true, if_false, m_64, hb0, hb, ifbn, yAs_10 W.oo, yns_10 W.oo, h2, h3, h5, h6, hrp, hneg, yAs_2 W.oo, yns_2 W.oo, yAs_6 W.oo, yns_6 W.oo, W.du q hq, W.du p (show p < 40 by omega), g58, ho, Bool.false_eq_true, h4, ih (p + 1) _ _ (show p + 1 + m = Y.n by omega), yfold, hw, ho, Bool.not_false, Bool.true_and, Bool.true_or, Gk_v, Gk_n, xcat_nil, xcat_i, xcat_r, xcat_l, xcat_d, Nat.zero_le, Nat.reduceAdd, Nat.reduceLeDiff, true_and, and_true, ykl_i, ykl_r, ykl_n, ykl_l]
    · rw [hb] at hw
      simp only [s_60_0, s_60_1, s_60_2, s_60_3, s_60_4, s_60_5, s_60_6, s_60_8, s_60_9, s_60_10, s_60_11, s_60_12, s_60_13, s_60_14, s_60_15, s_60_16, s_60_17, s_60_18, s_60_19, s_60_20, s_60_21, s_60_22, s_60_23, s_60_24, s_60_25, s_60_26, s_60_27, s_60_28, s_60_29, s_60_30, s_60_31, s_60_32, s_60_33, s_60_34, s_60_35, s_60_36, s_60_37, s_60_38, s_60_39, s_60_40, s_60_41, s_60_42, s_60_43, s_60_44, s_60_45, s_60_46, s_60_47, W.oo, W.n, h1, if_true, if_false, m_64, hb0, hb, ifbn, h4, ih (p + 1) _ _ (show p + 1 + m = Y.n by omega), yfold, hw, Bool.not_true, Bool.false_and, Bool.false_eq_true, Gk_v, Gk_n, xcat_nil, xcat_i, xcat_r, xcat_l, xcat_d, Nat.zero_le, Nat.reduceAdd, Nat.reduceLeDiff, true_and, and_true, ykl_i, ykl_r, ykl_n, ykl_l]
theorem m_60 {t : yT} {Y : yD} {X : Nat} (W : yW t o Y) (hX : X < 2 ^ Y.n) : ∃ u, Ra (d + 3) 60 [.ref o, .long (Int64.ofNat X)] (yemb t) (.inl (some (.int (ycw Y X)))) (yemb u) ∧ (yW u o Y ∧ yFr (fun a => a = o + 10) t u) := by
  have hn40 := W.ok.n40
  have hX2 : X < 2 ^ 63 := Nat.lt_of_lt_of_le hX (Nat.pow_le_pow_right (by decide) (by omega))
  have F : yFr (fun a => a = o + 10) t (t.sA (o + 10) (ysent Y X.testBit (t.A (o + 10)))) := yFr_sA rfl
  have W1 : yW (t.sA (o + 10) (ysent Y X.testBit (t.A (o + 10)))) o Y := yW_fr W F (fun a _ _ (h : a = o + 10) => by omega)
  have h1 := fun Q' => m_55 (d := d) (Q := Q') W (s := Int64.ofNat X) (b := X.testBit) (fun p hp => yin_nat hX2 (by omega))
  have h2 := l_60 (d := d) W1 hX (fun p hp => by rw [ysA_same]; exact yrow_eq hp) Y.n 0 0 none (Nat.zero_add _)
  refine ⟨_, fun Q => ?_, W1, F⟩
  have h2' := h2 Q
  show G (d + 3) 60 0 [some (.ref o), some (.long (Int64.ofNat X)), none, none, none, none] [] (yemb t) Q ↔ _
  simp only [s_60_0, s_60_1, s_60_2 W.oo, s_60_3, s_60_4, s_60_5, s_60_6, h1, Gk_v, Gk_n, xcat_nil, xcat_i, xcat_r, xcat_l, xcat_d, Nat.zero_le, Nat.reduceAdd, Nat.reduceLeDiff, true_and, and_true, ykl_i, ykl_r, ykl_n, ykl_l]
  exact h2'
end

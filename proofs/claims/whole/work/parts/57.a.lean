/-! ===== usage ===== -/
theorem ynan {x y : Int32} (hy : ¬ y = 0) : FP.ddiv (FP.i2d x) (FP.i2d y) &&& 0x7fffffffffffffff ≤ 0x7ff0000000000000 := by
  have hx := Jvm.FP.Core.i2d_int x
  have hy1 := Jvm.FP.Core.i2d_int y
  have hv : Jvm.FP.Core.val64 (FP.ddiv (FP.i2d x) (FP.i2d y)) ≠ .nan := by
    rw [show FP.ddiv (FP.i2d x) (FP.i2d y) = Jvm.FP.Core.ddiv (Jvm.FP.Core.i2d x) (Jvm.FP.Core.i2d y) from rfl, Jvm.FP.Core.val64_ddiv]
    unfold Jvm.FP.Core.DInt at hx hy1
    cases h1 : Jvm.FP.Core.val64 (Jvm.FP.Core.i2d x) with
    | nan =>
      rw [h1] at hx
      exact hx.elim
    | inf s =>
      rw [h1] at hx
      exact hx.elim
    | fin s c q =>
      cases h2 : Jvm.FP.Core.val64 (Jvm.FP.Core.i2d y) with
      | nan =>
        rw [h2] at hy1
        exact hy1.elim
      | inf s =>
        rw [h2] at hy1
        exact hy1.elim
      | fin t e r =>
        rw [h2] at hy1
        have he : ¬ e = 0 := by
          intro h0
          rw [h0] at hy1
          have h3 : Jvm.FP.Core.signed t (0 * 2 ^ r.toNat) = y.toInt * ((2 ^ (-r).toNat : Nat) : Int) := hy1
          rw [Nat.zero_mul] at h3
          have h4 : Jvm.FP.Core.signed t 0 = 0 := by cases t <;> rfl
          rw [h4] at h3
          have h5 : (0 : Int) < ((2 ^ (-r).toNat : Nat) : Int) := by
            have := Nat.pow_pos (a := 2) (n := (-r).toNat) (by decide)
            omega
          have h6 : y.toInt = 0 := by
            rcases Int.mul_eq_zero.mp h3.symm with h | h
            · exact h
            · omega
          exact hy (Int32.toInt_inj.mp h6)
        show (if e = 0 then _ else _) ≠ _
        rw [if_neg he]
        exact Jvm.FP.Core.roundRatio_ne_nan _ _ _ _ _
  have h := (Jvm.FP.Core.ne_nan _).mp hv
  rw [UInt64.le_iff_toNat_le, UInt64.toNat_and, show (0x7fffffffffffffff : UInt64).toNat = 2 ^ 63 - 1 from rfl, Nat.and_two_pow_sub_one_eq_mod]
  exact h
def yusage (D : yD) : UInt64 := if ysumlim D = 0 then FP.dconst0 else FP.ddiv (FP.i2d (ycurrent D)) (FP.i2d (ysumlim D))
section
variable {d : Nat} {t : yT} {D : yD} {k : Nat} {E : Nat → yD} {s0 s1 : Option yD} {n : Nat} {B : Nat → Nat} {eo en : Int32}
theorem m_107 (W : yW t 7 D) : Ra (d + 5) 107 [.ref 0] (yemb t) (.inl (some (.double (yusage D)))) (yemb t) := by
  intro Q
  have g1 := fun Q' => m_45 (d := d + 4) (Q := Q') W
  have g2 := fun Q' => m_50 (d := d) (Q := Q') W
  show G (d + 5) 107 0 [some (.ref 0), none] [] (yemb t) Q ↔ _
  unfold yusage
  by_cases h : ysumlim D = 0
  · simp only [s_107_0, s_107_1, s_107_2, s_107_3, s_107_4, s_107_5, s_107_6, s_107_7, s_107_8, s_107_9, s_107_10, s_107_11, s_107_12, s_107_13, s_107_14, s_107_15, yO_0, yO_7, g1, h, ne_eq, not_true_eq_false, if_true, if_false, Gk_v, Gk_n, xcat_nil, xcat_i, xcat_r, xcat_l, xcat_d, Nat.zero_le, Nat.reduceAdd, Nat.reduceLeDiff, true_and, and_true, ykl_i, ykl_r, ykl_n, ykl_l]
  · simp only [s_107_0, s_107_1, s_107_2, s_107_3, s_107_4, s_107_5, s_107_6, s_107_7, s_107_8, s_107_9, s_107_10, s_107_11, s_107_12, s_107_13, s_107_14, s_107_15, yO_0, yO_7, g1, g2, h, ne_eq, not_false_eq_true, if_true, if_false, ynan h, Gk_v, Gk_n, xcat_nil, xcat_i, xcat_r, xcat_l, xcat_d, Nat.zero_le, Nat.reduceAdd, Nat.reduceLeDiff, true_and, and_true, ykl_i, ykl_r, ykl_n, ykl_l]
theorem l_202 (M : yM (t.A 162) D) : ∀ m g a, g + m = D.f → Gg (d + 7) 202 7 [some (.ref 160), some (.int a), some (.int (yI g))] [] (yemb t) 25 [some (.ref 160), some (.int (yfold (fun g a => a + D.fl g) m g a)), some (.int (yI D.f))] [] (yemb t) := by
  have hf6 := M.ok.f6
  intro m
  induction m with
  | zero =>
    intro g a hg Q
    have e : g = D.f := by omega
    have h3 : yI D.f ≤ yI D.f := Int32.le_refl _
    rw [s_202_7]
    simp only [s_202_0, s_202_1, s_202_2, s_202_3, s_202_4, s_202_5, s_202_6, s_202_8, s_202_9, s_202_10, s_202_11, s_202_12, s_202_13, s_202_14, s_202_15, s_202_16, s_202_17, s_202_18, s_202_19, s_202_20, s_202_21, s_202_22, s_202_23, s_202_24, s_202_26, s_202_27, s_202_28, s_202_29, s_202_30, s_202_31, s_202_32, s_202_33, s_202_34, s_202_35, yO_160, yA_162, yn_162, yix3, ycl3, M.f, e, h3, if_true, yfold, Gk_v, Gk_n, xcat_nil, xcat_i, xcat_r, xcat_l, xcat_d, Nat.zero_le, Nat.reduceAdd, Nat.reduceLeDiff, true_and, and_true, ykl_i, ykl_r, ykl_n, ykl_l]
  | succ m ih =>
    intro g a hg Q
    have h3 : ¬ yI D.f ≤ yI g := fun h => absurd ((yI_le (by omega) (by omega)).mp h) (by omega)
    have h4 : yI g + 1 = yI (g + 1) := yI_add
    have e1 : yI (328 + 2 * g) + 1 = yI (328 + 2 * g + 1) := yI_add
    have c6 : yix (yI (328 + 2 * g + 1)) 1540 := yix_I (by omega) (by omega)
    have c7 : (yI (328 + 2 * g + 1)).toNatClampNeg = 328 + 2 * g + 1 := yI_clamp (by omega)
    have c4 : t.A 162 (328 + 2 * g + 1) = D.fl g := M.fl g (by omega)
    rw [s_202_7]
    simp only [s_202_0, s_202_1, s_202_2, s_202_3, s_202_4, s_202_5, s_202_6, s_202_8, s_202_9, s_202_10, s_202_11, s_202_12, s_202_13, s_202_14, s_202_15, s_202_16, s_202_17, s_202_18, s_202_19, s_202_20, s_202_21, s_202_22, s_202_23, s_202_24, s_202_26, s_202_27, s_202_28, s_202_29, s_202_30, s_202_31, s_202_32, s_202_33, s_202_34, s_202_35, yO_160, yA_162, yn_162, yix3, ycl3, M.f, h3, if_false, m_161, e1, c6, c7, c4, h4, ih (g + 1) _ (by omega), yfold, Gk_v, Gk_n, xcat_nil, xcat_i, xcat_r, xcat_l, xcat_d, Nat.zero_le, Nat.reduceAdd, Nat.reduceLeDiff, true_and, and_true, ykl_i, ykl_r, ykl_n, ykl_l]
theorem k_107 (I : yInv t) : ∃ u v, Ra (d + 5) 107 [.ref 0] (yemb t) (.inl (some (.double v))) (yemb t) ∧ (Ra (d + 7) 202 [.ref 160] (yemb t) (.inl (some (.double v))) (yemb u) ∧ yOK t u 0 (t.L 183 0)) := by
  obtain ⟨⟨D, k, E, s0, s1, n, B, eo, en, C, M⟩, Z⟩ := I
  have M0 := yMI_s1 (j := 0) (v := 0) M (by decide)
  refine ⟨t.s1 160 0 0, yusage D, m_107 (d := d) C.1, fun Q => ?_, yOK_of Z yFc_rfl C yFm_s1 M0 ys1_same (fun _ => rfl)⟩
  have h1 := l_202 (d := d) M0.1 D.f 0 0 (Nat.zero_add _) Q
  have g2 := fun Q' => m_171 (d := d) (Q := Q') M0.1
  have e : yfold (fun g a => a + D.fl g) D.f 0 0 = ysumlim D := rfl
  rw [e] at h1
  show G (d + 7) 202 0 [some (.ref 160), none, none] [] (yemb t) Q ↔ _
  simp only [s_202_0, s_202_1, s_202_2 yO_160, s_202_3, s_202_4, s_202_5, s_202_6, Gk_v, Gk_n, xcat_nil, xcat_i, xcat_r, xcat_l, xcat_d, Nat.zero_le, Nat.reduceAdd, Nat.reduceLeDiff, true_and, and_true, ykl_i, ykl_r, ykl_n, ykl_l]
  rw [show G (d + 7) 202 7 [some (.ref 160), some (.int 0), some (.int 0)] [] (yemb (t.s1 160 0 0)) Q ↔ _ from h1]
  unfold yusage
  by_cases h : ysumlim D = 0
  · simp only [s_202_0, s_202_1, s_202_2, s_202_3, s_202_4, s_202_5, s_202_6, s_202_8, s_202_9, s_202_10, s_202_11, s_202_12, s_202_13, s_202_14, s_202_15, s_202_16, s_202_17, s_202_18, s_202_19, s_202_20, s_202_21, s_202_22, s_202_23, s_202_24, s_202_25, s_202_26, s_202_27, s_202_28, s_202_29, s_202_30, s_202_31, s_202_32, s_202_33, s_202_34, s_202_35, yO_160, h, ne_eq, not_true_eq_false, if_true, if_false, Gk_v, Gk_n, xcat_nil, xcat_i, xcat_r, xcat_l, xcat_d, Nat.zero_le, Nat.reduceAdd, Nat.reduceLeDiff, true_and, and_true, ykl_i, ykl_r, ykl_n, ykl_l]
  · simp only [s_202_0, s_202_1, s_202_2, s_202_3, s_202_4, s_202_5, s_202_6, s_202_8, s_202_9, s_202_10, s_202_11, s_202_12, s_202_13, s_202_14, s_202_15, s_202_16, s_202_17, s_202_18, s_202_19, s_202_20, s_202_21, s_202_22, s_202_23, s_202_24, s_202_25, s_202_26, s_202_27, s_202_28, s_202_29, s_202_30, s_202_31, s_202_32, s_202_33, s_202_34, s_202_35, yO_160, g2, h, ne_eq, not_false_eq_true, if_true, if_false, ynan h, Gk_v, Gk_n, xcat_nil, xcat_i, xcat_r, xcat_l, xcat_d, Nat.zero_le, Nat.reduceAdd, Nat.reduceLeDiff, true_and, and_true, ykl_i, ykl_r, ykl_n, ykl_l]
end

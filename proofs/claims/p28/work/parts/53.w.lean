/-! ===== calls that only tell: state, pixel, feed, why ===== -/
section
variable {d : Nat} {t : yT} {D : yD} {k : Nat} {E : Nat → yD} {s0 s1 : Option yD} {n : Nat} {B : Nat → Nat} {eo en : Int32}
theorem yFc_rfl : yFc t t := yFc_fr yFr.rfl' (P := fun _ => False) (fun a h => h.elim)
/- state -/
theorem q_99t {x : Int32} (hx : yin0 9 x = false) (hz : t.z.1.1 < 900000) : Ra (d + 5) 99 [.ref 0, .int x] (yemb t) (.inr 0) (yemb t.bp) := by
  intro Q
  have h := yfew (m := 9) (by decide) hx
  show G (d + 5) 99 0 [some (.ref 0), some (.int x)] [] (yemb t) Q ↔ _
  rw [s_99_0, s_99_1_d h]
  simp only [s_99_50, xbump_z hz, xbump_emb, Gk_v, Gk_n, xcat_nil, xcat_i, xcat_r, xcat_l, xcat_d, Nat.zero_le, Nat.reduceAdd, Nat.reduceLeDiff, true_and, and_true, ykl_i, ykl_r, ykl_n, ykl_l]
/- pixel -/
theorem q_100t (C : yCI t D k E s0 s1 n B eo en) {p x : Int32} (hz : t.z.1.1 < 900000) : (yisp D p = false → Ra (d + 5) 100 [.ref 0, .int p, .int x] (yemb t) (.inr 1) (yemb t.bp)) ∧ (yisp D p = true → yin0 8 x = false → Ra (d + 5) 100 [.ref 0, .int p, .int x] (yemb t) (.inr 0) (yemb t.bp)) := by
  have g1 := fun Q' => m_32' (d := d + 4) C.1 (j := p) Q'
  constructor
  · intro hc Q
    rw [hc] at g1
    show G (d + 5) 100 0 [some (.ref 0), some (.int p), some (.int x)] [] (yemb t) Q ↔ _
    simp only [s_100_0, s_100_1, s_100_2, s_100_3, s_100_4, s_100_5, s_100_6, s_100_6i, s_100_9, s_100_10_0, s_100_10_1, s_100_10_2, s_100_10_3, s_100_10_4, s_100_10_5, s_100_10_6, s_100_10_7, s_100_10_8, s_100_10_d, s_100_11, s_100_12, s_100_13, s_100_14, s_100_15, s_100_16, s_100_17, s_100_18, s_100_19, s_100_20, s_100_21, s_100_22, s_100_23, s_100_24, s_100_25, s_100_26, s_100_27, s_100_28, s_100_29, s_100_30, s_100_31, s_100_32, s_100_33, s_100_34, s_100_35, s_100_36, s_100_37, s_100_38, s_100_39, s_100_40, s_100_41, s_100_42, s_100_43, s_100_44, s_100_45, s_100_46, s_100_47, s_100_48, s_100_49, s_100_50, s_100_51, s_100_52, s_100_53, s_100_54, s_100_55, s_100_56, s_100_57, s_100_58, s_100_59, s_100_60, s_100_61, s_100_62, s_100_63, s_100_64, s_100_65, s_100_66, s_100_67, s_100_68, s_100_68i, yO_0, yO_7, g1, ifbn, Bool.false_eq_true, if_false, xbump_z hz, xbump_emb, Gk_v, Gk_n, xcat_nil, xcat_i, xcat_r, xcat_l, xcat_d, Nat.zero_le, Nat.reduceAdd, Nat.reduceLeDiff, true_and, and_true, ykl_i, ykl_r, ykl_n, ykl_l]
  · intro hc hx Q
    rw [hc] at g1
    have h := yfew (m := 8) (by decide) hx
    show G (d + 5) 100 0 [some (.ref 0), some (.int p), some (.int x)] [] (yemb t) Q ↔ _
    simp only [s_100_0, s_100_1, s_100_2, s_100_3, s_100_4, s_100_5, s_100_6, s_100_6i, s_100_9, s_100_11, s_100_12, s_100_13, s_100_14, s_100_15, s_100_16, s_100_17, s_100_18, s_100_19, s_100_20, s_100_21, s_100_22, s_100_23, s_100_24, s_100_25, s_100_26, s_100_27, s_100_28, s_100_29, s_100_30, s_100_31, s_100_32, s_100_33, s_100_34, s_100_35, s_100_36, s_100_37, s_100_38, s_100_39, s_100_40, s_100_41, s_100_42, s_100_43, s_100_44, s_100_45, s_100_46, s_100_47, s_100_48, s_100_49, s_100_50, s_100_51, s_100_52, s_100_53, s_100_54, s_100_55, s_100_56, s_100_57, s_100_58, s_100_59, s_100_60, s_100_61, s_100_62, s_100_63, s_100_64, s_100_65, s_100_66, s_100_67, s_100_68, s_100_68i, yO_0, yO_7, g1, ifbn, if_true, Gk_v, Gk_n, xcat_nil, xcat_i, xcat_r, xcat_l, xcat_d, Nat.zero_le, Nat.reduceAdd, Nat.reduceLeDiff, true_and, and_true, ykl_i, ykl_r, ykl_n, ykl_l]
    rw [s_100_10_d h]
    simp only [s_100_67, xbump_z hz, xbump_emb, Gk_v, Gk_n, xcat_nil, xcat_i, xcat_r, xcat_l, xcat_d, Nat.zero_le, Nat.reduceAdd, Nat.reduceLeDiff, true_and, and_true, ykl_i, ykl_r, ykl_n, ykl_l]
/- feed -/
theorem q_101t (C : yCI t D k E s0 s1 n B eo en) {p x : Int32} (hz : t.z.1.1 < 900000) : (yisf D p = false → Ra (d + 4) 101 [.ref 0, .int p, .int x] (yemb t) (.inr 1) (yemb t.bp)) ∧ (yisf D p = true → yin0 3 x = false → Ra (d + 4) 101 [.ref 0, .int p, .int x] (yemb t) (.inr 0) (yemb t.bp)) := by
  have g1 := fun Q' => m_33' (d := d + 3) C.1 (j := p) Q'
  constructor
  · intro hc Q
    rw [hc] at g1
    show G (d + 4) 101 0 [some (.ref 0), some (.int p), some (.int x)] [] (yemb t) Q ↔ _
    simp only [s_101_0, s_101_1, s_101_2, s_101_3, s_101_4, s_101_5, s_101_6, s_101_6i, s_101_9, s_101_10_0, s_101_10_1, s_101_10_2, s_101_10_3, s_101_10_d, s_101_11, s_101_12, s_101_13, s_101_14, s_101_15, s_101_16, s_101_17, s_101_18, s_101_19, s_101_20, s_101_21, s_101_22, s_101_23, s_101_24, s_101_25, s_101_26, s_101_27, s_101_28, s_101_29, s_101_30, s_101_31, s_101_32, s_101_33, s_101_34, s_101_34i, yO_0, yO_7, g1, ifbn, Bool.false_eq_true, if_false, xbump_z hz, xbump_emb, Gk_v, Gk_n, xcat_nil, xcat_i, xcat_r, xcat_l, xcat_d, Nat.zero_le, Nat.reduceAdd, Nat.reduceLeDiff, true_and, and_true, ykl_i, ykl_r, ykl_n, ykl_l]
  · intro hc hx Q
    rw [hc] at g1
    have h := yfew (m := 3) (by decide) hx
    show G (d + 4) 101 0 [some (.ref 0), some (.int p), some (.int x)] [] (yemb t) Q ↔ _
    simp only [s_101_0, s_101_1, s_101_2, s_101_3, s_101_4, s_101_5, s_101_6, s_101_6i, s_101_9, s_101_11, s_101_12, s_101_13, s_101_14, s_101_15, s_101_16, s_101_17, s_101_18, s_101_19, s_101_20, s_101_21, s_101_22, s_101_23, s_101_24, s_101_25, s_101_26, s_101_27, s_101_28, s_101_29, s_101_30, s_101_31, s_101_32, s_101_33, s_101_34, s_101_34i, yO_0, yO_7, g1, ifbn, if_true, Gk_v, Gk_n, xcat_nil, xcat_i, xcat_r, xcat_l, xcat_d, Nat.zero_le, Nat.reduceAdd, Nat.reduceLeDiff, true_and, and_true, ykl_i, ykl_r, ykl_n, ykl_l]
    rw [s_101_10_d h]
    simp only [s_101_33, xbump_z hz, xbump_emb, Gk_v, Gk_n, xcat_nil, xcat_i, xcat_r, xcat_l, xcat_d, Nat.zero_le, Nat.reduceAdd, Nat.reduceLeDiff, true_and, and_true, ykl_i, ykl_r, ykl_n, ykl_l]
end

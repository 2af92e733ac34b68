/-! ===== calls that only tell: state, pixel, feed, why ===== -/
section
variable {d : Nat} {t : yT} {D : yD} {k : Nat} {E : Nat → yD} {s0 s1 : Option yD} {n : Nat} {B : Nat → Nat} {eo en : Int32}
theorem yFc_rfl : yFc t t := yFc_fr yFr.rfl' (P := fun _ => False) (fun a h => h.elim)
/- state -/
theorem q_99t {x : Int32} (hx : yin0 9 x = false) (hz : t.z.1.1 < 900000) : Ra (d + 5) 99 [.ref 0, .int x] (yemb t) (.inr 0) (yemb t.bp) := by
  intro Q
  have h := yfew (m := 9) (by decide) hx
  show G (d + 5) 99 0 [some (.ref 0), some (.int x)] [] (yemb t) Q ↔ _
  rw [s_99_0, s_99_1_d h]
  simp only [s_99_50, xbump_z hz, xbump_emb, Gk_v, Gk_n, xcat_nil, xcat_i, xcat_r, xcat_l, xcat_d, Nat.zero_le, Nat.reduceAdd, Nat.reduceLeDiff, true_and, and_true, ykl_i, ykl_r, ykl_n, ykl_l]
theorem p_190 (M : yMI t D k E s0 s1 n B eo en) {w : Nat} (hw : w < 10) : ∃ u, Ra (d + 8) 190 [.ref 160, .int (yI w)] (yemb t) (.inl (some (.int (ytS D w)))) (yemb u) ∧ (yMI u D k E s0 s1 n B eo en ∧ (u.A 160 0 = 0 ∧ yFm t u)) := by
  have M0 := yMI_s1 (j := 0) (v := 0) M (by decide)
  have g := fun Q' => m_189 (d := d) M0.1 hw Q'
  have c1 : (decide ((0 : Int32) ≤ yI w ∧ yI w ≤ 9)) = true := decide_eq_true ⟨(yI_le (n := 0) (by decide) (by omega)).mpr (Nat.zero_le _), (yI_le (m := 9) (by omega) (by decide)).mpr (by omega)⟩
  refine ⟨t.s1 160 0 0, fun Q => ?_, M0, ys1_same, yFm_s1⟩
  show G (d + 8) 190 0 [some (.ref 160), some (.int (yI w))] [] (yemb t) Q ↔ _
  simp only [s_190_0, s_190_1, s_190_2, s_190_3, s_190_4, s_190_5, s_190_6, s_190_7, s_190_8, s_190_9, s_190_10, s_190_11, s_190_12, s_190_13, s_190_14, s_190_15, s_190_16, s_190_17, s_190_18, s_190_19, s_190_20, yO_160, m_125, c1, ifb, ifbn, if_true, m_124f yne10 ys1_same, g, Gk_v, Gk_n, xcat_nil, xcat_i, xcat_r, xcat_l, xcat_d, Nat.zero_le, Nat.reduceAdd, Nat.reduceLeDiff, true_and, and_true, ykl_i, ykl_r, ykl_n, ykl_l]
theorem p_190t (M : yMI t D k E s0 s1 n B eo en) {x : Int32} (hx : yin0 9 x = false) : ∃ u, Ra (d + 8) 190 [.ref 160, .int x] (yemb t) (.inl (some (.int 0))) (yemb u) ∧ (yMI u D k E s0 s1 n B eo en ∧ (u.A 160 0 = 1 ∧ yFm t u)) := by
  have M0 := yMI_s1 (j := 0) (v := 0) M (by decide)
  have c1 : (decide ((0 : Int32) ≤ x ∧ x ≤ 9)) = false := hx
  refine ⟨(t.s1 160 0 0).s1 160 0 1, fun Q => ?_, yMI_s1 M0 (by decide), ys1_same, yFm_trans yFm_s1 yFm_s1⟩
  show G (d + 8) 190 0 [some (.ref 160), some (.int x)] [] (yemb t) Q ↔ _
  simp only [s_190_0, s_190_1, s_190_2, s_190_3, s_190_4, s_190_5, s_190_6, s_190_7, s_190_8, s_190_9, s_190_10, s_190_11, s_190_12, s_190_13, s_190_14, s_190_15, s_190_16, s_190_17, s_190_18, s_190_19, s_190_20, yO_160, m_125, c1, ifb, ifbn, Bool.false_eq_true, if_false, m_124t yne10 ys1_same, yne10, Gk_v, Gk_n, xcat_nil, xcat_i, xcat_r, xcat_l, xcat_d, Nat.zero_le, Nat.reduceAdd, Nat.reduceLeDiff, true_and, and_true, ykl_i, ykl_r, ykl_n, ykl_l]
theorem k_228 (I : yInv t) (hz : t.z.1.1 < 900000) (x : Int32) : ∃ u1 u c v, Ra (d + 6) 228 [.ref 0, .int x, .ref 183] (yemb t) (.inl (some (.int c))) (yemb u1) ∧ (Ra (d + 8) 190 [.ref 160, .int x] (yemb u1) (.inl (some (.int v))) (yemb u) ∧ yOK t u c v.toInt64) := by
  obtain ⟨⟨D, k, E, s0, s1, n, B, eo, en, C, M⟩, Z⟩ := I
  cases hc : yin0 9 x
  · obtain ⟨u, hu, M1, h0, Fm⟩ := p_190t (d := d) (yMI_c M yFc_bp) hc
    exact ⟨_, u, 1, 0, h_228_0 (q_99t hc hz), hu, yOK_of Z yFc_bp (yCI_bp C) Fm M1 h0 (fun h => absurd h yne10)⟩
  · obtain ⟨w, hw, rfl⟩ := yrange (m := 9) (by decide) (of_decide_eq_true hc)
    have Fc := yFc_out (j := 0) (v := (ytS D w).toInt64) (yFc_rfl (t := t))
    obtain ⟨u, hu, M1, h0, Fm⟩ := p_190 (d := d) (yMI_c M Fc) (w := w) (by omega)
    exact ⟨_, u, 0, _, h_228 (m_99 (d := d) C.1 (by omega)), hu, yOK_of Z Fc (yCI_out C) Fm M1 h0 (fun _ => yoL)⟩
/- pixel -/
theorem q_100t (C : yCI t D k E s0 s1 n B eo en) {p x : Int32} (hz : t.z.1.1 < 900000) : (yisp D p = false → Ra (d + 5) 100 [.ref 0, .int p, .int x] (yemb t) (.inr 1) (yemb t.bp)) ∧ (yisp D p = true → yin0 8 x = false → Ra (d + 5) 100 [.ref 0, .int p, .int x] (yemb t) (.inr 0) (yemb t.bp)) := by
  have g1 := fun Q' => m_32' (d := d + 4) C.1 (j := p) Q'
  constructor
  · intro hc Q
    rw [hc] at g1
    show G (d + 5) 100 0 [some (.ref 0), some (.int p), some (.int x)] [] (yemb t) Q ↔ _
    simp only [s_100_0, s_100_1, s_100_2, s_100_3, s_100_4, s_100_5, s_100_6, s_100_6i, s_100_9, s_100_10_0, s_100_10_1, s_100_10_2, s_100_10_3, s_100_10_4, s_100_10_5, s_100_10_6, s_100_10_7, s_100_10_8, s_100_10_d, s_100_11, s_100_12, s_100_13, s_100_14, s_100_15, s_100_16, s_100_17, s_100_18, s_100_19, s_100_20, s_100_21, s_100_22, s_100_23, s_100_24, s_100_25, s_100_26, s_100_27, s_100_28, s_100_29, s_100_30, s_100_31, s_100_32, s_100_33, s_100_34, s_100_35, s_100_36, s_100_37, s_100_38, s_100_39, s_100_40, s_100_41, s_100_42, s_100_43, s_100_44, s_100_45, s_100_46, s_100_47, s_100_48, s_100_49, s_100_50, s_100_51, s_100_52, s_100_53, s_100_54, s_100_55, s_100_56, s_100_57, s_100_58, s_100_59, s_100_60, s_100_61, s_100_62, s_100_63, s_100_64, s_100_65, s_100_66, s_100_67, s_100_68, s_100_68i, yO_0, yO_7, g1, ifbn, Bool.false_eq_true, if_false, xbump_z hz, xbump_emb, Gk_v, Gk_n, xcat_nil, xcat_i, xcat_r, xcat_l, xcat_d, Nat.zero_le, Nat.reduceAdd, Nat.reduceLeDiff, true_and, and_true, ykl_i, ykl_r, ykl_n, ykl_l]
  · intro hc hx Q
    rw [hc] at g1
    have h := yfew (m := 8) (by decide) hx
    show G (d + 5) 100 0 [some (.ref 0), some (.int p), some (.int x)] [] (yemb t) Q ↔ _
    simp only [s_100_0, s_100_1, s_100_2, s_100_3, s_100_4, s_100_5, s_100_6, s_100_6i, s_100_9, s_100_11, s_100_12, s_100_13, s_100_14, s_100_15, s_100_16, s_100_17, s_100_18, s_100_19, s_100_20, s_100_21, s_100_22, s_100_23, s_100_24, s_100_25, s_100_26, s_100_27, s_100_28, s_100_29, s_100_30, s_100_31, s_100_32, s_100_33, s_100_34, s_100_35, s_100_36, s_100_37, s_100_38, s_100_39, s_100_40, s_100_41, s_100_42, s_100_43, s_100_44, s_100_45, s_100_46, s_100_47, s_100_48, s_100_49, s_100_50, s_100_51, s_100_52, s_100_53, s_100_54, s_100_55, s_100_56, s_100_57, s_100_58, s_100_59, s_100_60, s_100_61, s_100_62, s_100_63, s_100_64, s_100_65, s_100_66, s_100_67, s_100_68, s_100_68i, yO_0, yO_7, g1, ifbn, if_true, Gk_v, Gk_n, xcat_nil, xcat_i, xcat_r, xcat_l, xcat_d, Nat.zero_le, Nat.reduceAdd, Nat.reduceLeDiff, true_and, and_true, ykl_i, ykl_r, ykl_n, ykl_l]
    rw [s_100_10_d h]
    simp only [s_100_67, xbump_z hz, xbump_emb, Gk_v, Gk_n, xcat_nil, xcat_i, xcat_r, xcat_l, xcat_d, Nat.zero_le, Nat.reduceAdd, Nat.reduceLeDiff, true_and, and_true, ykl_i, ykl_r, ykl_n, ykl_l]
theorem p_192 (M : yMI t D k E s0 s1 n B eo en) {p w : Nat} (hp : p < D.n) (hc : yisp D (yI p) = true) (hw : w < 9) : ∃ u, Ra (d + 7) 192 [.ref 160, .int (yI p), .int (yI w)] (yemb t) (.inl (some (.int (ytP D p w)))) (yemb u) ∧ (yMI u D k E s0 s1 n B eo en ∧ (u.A 160 0 = 0 ∧ yFm t u)) := by
  have M0 := yMI_s1 (j := 0) (v := 0) M (by decide)
  have g := fun Q' => m_191 (d := d) M0.1 hp hw Q'
  have g1 := fun Q' => m_185' (d := d + 5) M0.1 (p := yI p) ys1_same Q'
  rw [hc] at g1
  have c1 : (decide ((0 : Int32) ≤ yI w ∧ yI w ≤ 8)) = true := decide_eq_true ⟨(yI_le (n := 0) (by decide) (by omega)).mpr (Nat.zero_le _), (yI_le (m := 8) (by omega) (by decide)).mpr (by omega)⟩
  refine ⟨t.s1 160 0 0, fun Q => ?_, M0, ys1_same, yFm_s1⟩
  show G (d + 7) 192 0 [some (.ref 160), some (.int (yI p)), some (.int (yI w))] [] (yemb t) Q ↔ _
  simp only [s_192_0, s_192_1, s_192_2, s_192_3, s_192_4, s_192_5, s_192_6, s_192_7, s_192_8, s_192_9, s_192_10, s_192_11, s_192_12, s_192_13, s_192_14, s_192_15, s_192_16, s_192_17, s_192_18, s_192_19, s_192_20, s_192_21, s_192_22, s_192_23, s_192_24, s_192_25, yO_160, g1, yb_f, m_125, c1, ifb, ifbn, Bool.not_true, Bool.false_eq_true, ne_eq, not_true_eq_false, if_true, if_false, m_124f yne20 ys1_same, g, Gk_v, Gk_n, xcat_nil, xcat_i, xcat_r, xcat_l, xcat_d, Nat.zero_le, Nat.reduceAdd, Nat.reduceLeDiff, true_and, and_true, ykl_i, ykl_r, ykl_n, ykl_l]
theorem p_192t (M : yMI t D k E s0 s1 n B eo en) {p x : Int32} : (yisp D p = false → ∃ u, Ra (d + 7) 192 [.ref 160, .int p, .int x] (yemb t) (.inl (some (.int 0))) (yemb u) ∧ (yMI u D k E s0 s1 n B eo en ∧ (u.A 160 0 = 1 ∧ yFm t u))) ∧ (yisp D p = true → yin0 8 x = false → ∃ u, Ra (d + 7) 192 [.ref 160, .int p, .int x] (yemb t) (.inl (some (.int 0))) (yemb u) ∧ (yMI u D k E s0 s1 n B eo en ∧ (u.A 160 0 = 2 ∧ yFm t u))) := by
  have M0 := yMI_s1 (j := 0) (v := 0) M (by decide)
  have g1 := fun Q' => m_185' (d := d + 5) M0.1 (p := p) ys1_same Q'
  constructor
  · intro hc
    rw [hc] at g1
    refine ⟨(t.s1 160 0 0).s1 160 0 1, fun Q => ?_, yMI_s1 M0 (by decide), ys1_same, yFm_trans yFm_s1 yFm_s1⟩
    show G (d + 7) 192 0 [some (.ref 160), some (.int p), some (.int x)] [] (yemb t) Q ↔ _
    simp only [s_192_0, s_192_1, s_192_2, s_192_3, s_192_4, s_192_5, s_192_6, s_192_7, s_192_8, s_192_9, s_192_10, s_192_11, s_192_12, s_192_13, s_192_14, s_192_15, s_192_16, s_192_17, s_192_18, s_192_19, s_192_20, s_192_21, s_192_22, s_192_23, s_192_24, s_192_25, yO_160, g1, yb_t, yne10, Bool.not_false, ne_eq, not_false_eq_true, if_true, Gk_v, Gk_n, xcat_nil, xcat_i, xcat_r, xcat_l, xcat_d, Nat.zero_le, Nat.reduceAdd, Nat.reduceLeDiff, true_and, and_true, ykl_i, ykl_r, ykl_n, ykl_l]
  · intro hc hx
    rw [hc] at g1
    have c1 : (decide ((0 : Int32) ≤ x ∧ x ≤ 8)) = false := hx
    refine ⟨(t.s1 160 0 0).s1 160 0 2, fun Q => ?_, yMI_s1 M0 (by decide), ys1_same, yFm_trans yFm_s1 yFm_s1⟩
    show G (d + 7) 192 0 [some (.ref 160), some (.int p), some (.int x)] [] (yemb t) Q ↔ _
    simp only [s_192_0, s_192_1, s_192_2, s_192_3, s_192_4, s_192_5, s_192_6, s_192_7, s_192_8, s_192_9, s_192_10, s_192_11, s_192_12, s_192_13, s_192_14, s_192_15, s_192_16, s_192_17, s_192_18, s_192_19, s_192_20, s_192_21, s_192_22, s_192_23, s_192_24, s_192_25, yO_160, g1, yb_f, m_125, c1, ifb, ifbn, Bool.not_true, Bool.false_eq_true, ne_eq, not_true_eq_false, if_true, if_false, m_124t yne20 ys1_same, yne10, Gk_v, Gk_n, xcat_nil, xcat_i, xcat_r, xcat_l, xcat_d, Nat.zero_le, Nat.reduceAdd, Nat.reduceLeDiff, true_and, and_true, ykl_i, ykl_r, ykl_n, ykl_l]
theorem k_229 (I : yInv t) (hz : t.z.1.1 < 900000) (p x : Int32) : ∃ u1 u c v, Ra (d + 6) 229 [.ref 0, .int p, .int x, .ref 183] (yemb t) (.inl (some (.int c))) (yemb u1) ∧ (Ra (d + 7) 192 [.ref 160, .int p, .int x] (yemb u1) (.inl (some (.int v))) (yemb u) ∧ yOK t u c v.toInt64) := by
  obtain ⟨⟨D, k, E, s0, s1, n, B, eo, en, C, M⟩, Z⟩ := I
  cases hp : yisp D p
  · obtain ⟨u, hu, M1, h0, Fm⟩ := (p_192t (d := d) (p := p) (x := x) (yMI_c M yFc_bp)).1 hp
    exact ⟨_, u, 1, 0, h_229_1 ((q_100t C hz).1 hp), hu, yOK_of Z yFc_bp (yCI_bp C) Fm M1 h0 (fun h => absurd h yne10)⟩
  · cases hc : yin0 8 x
    · obtain ⟨u, hu, M1, h0, Fm⟩ := (p_192t (d := d) (p := p) (x := x) (yMI_c M yFc_bp)).2 hp hc
      exact ⟨_, u, 2, 0, h_229_0 ((q_100t C hz).2 hp hc), hu, yOK_of Z yFc_bp (yCI_bp C) Fm M1 h0 (fun h => absurd h yne20)⟩
    · obtain ⟨w, hw, rfl⟩ := yrange (m := 8) (by decide) (of_decide_eq_true hc)
      obtain ⟨q, hq, rfl⟩ := yisp_of C.1.ok.n40 hp
      have Fc := yFc_out (j := 0) (v := (ytP D q w).toInt64) (yFc_rfl (t := t))
      obtain ⟨u, hu, M1, h0, Fm⟩ := p_192 (d := d) (yMI_c M Fc) (w := w) hq hp (by omega)
      exact ⟨_, u, 0, _, h_229 (m_100 (d := d) C.1 hq hp (by omega)), hu, yOK_of Z Fc (yCI_out C) Fm M1 h0 (fun _ => yoL)⟩
/- feed -/
theorem q_101t (C : yCI t D k E s0 s1 n B eo en) {p x : Int32} (hz : t.z.1.1 < 900000) : (yisf D p = false → Ra (d + 4) 101 [.ref 0, .int p, .int x] (yemb t) (.inr 1) (yemb t.bp)) ∧ (yisf D p = true → yin0 3 x = false → Ra (d + 4) 101 [.ref 0, .int p, .int x] (yemb t) (.inr 0) (yemb t.bp)) := by
  have g1 := fun Q' => m_33' (d := d + 3) C.1 (j := p) Q'
  constructor
  · intro hc Q
    rw [hc] at g1
    show G (d + 4) 101 0 [some (.ref 0), some (.int p), some (.int x)] [] (yemb t) Q ↔ _
    simp only [s_101_0, s_101_1, s_101_2, s_101_3, s_101_4, s_101_5, s_101_6, s_101_6i, s_101_9, s_101_10_0, s_101_10_1, s_101_10_2, s_101_10_3, s_101_10_d, s_101_11, s_101_12, s_101_13, s_101_14, s_101_15, s_101_16, s_101_17, s_101_18, s_101_19, s_101_20, s_101_21, s_101_22, s_101_23, s_101_24, s_101_25, s_101_26, s_101_27, s_101_28, s_101_29, s_101_30, s_101_31, s_101_32, s_101_33, s_101_34, s_101_34i, yO_0, yO_7, g1, ifbn, Bool.false_eq_true, if_false, xbump_z hz, xbump_emb, Gk_v, Gk_n, xcat_nil, xcat_i, xcat_r, xcat_l, xcat_d, Nat.zero_le, Nat.reduceAdd, Nat.reduceLeDiff, true_and, and_true, ykl_i, ykl_r, ykl_n, ykl_l]
  · intro hc hx Q
    rw [hc] at g1
    have h := yfew (m := 3) (by decide) hx
    show G (d + 4) 101 0 [some (.ref 0), some (.int p), some (.int x)] [] (yemb t) Q ↔ _
    simp only [s_101_0, s_101_1, s_101_2, s_101_3, s_101_4, s_101_5, s_101_6, s_101_6i, s_101_9, s_101_11, s_101_12, s_101_13, s_101_14, s_101_15, s_101_16, s_101_17, s_101_18, s_101_19, s_101_20, s_101_21, s_101_22, s_101_23, s_101_24, s_101_25, s_101_26, s_101_27, s_101_28, s_101_29, s_101_30, s_101_31, s_101_32, s_101_33, s_101_34, s_101_34i, yO_0, yO_7, g1, ifbn, if_true, Gk_v, Gk_n, xcat_nil, xcat_i, xcat_r, xcat_l, xcat_d, Nat.zero_le, Nat.reduceAdd, Nat.reduceLeDiff, true_and, and_true, ykl_i, ykl_r, ykl_n, ykl_l]
    rw [s_101_10_d h]
    simp only [s_101_33, xbump_z hz, xbump_emb, Gk_v, Gk_n, xcat_nil, xcat_i, xcat_r, xcat_l, xcat_d, Nat.zero_le, Nat.reduceAdd, Nat.reduceLeDiff, true_and, and_true, ykl_i, ykl_r, ykl_n, ykl_l]
theorem p_194 (M : yMI t D k E s0 s1 n B eo en) {p w : Nat} (hp : p < D.f) (hc : yisf D (yI p) = true) (hw : w < 4) : ∃ u, Ra (d + 5) 194 [.ref 160, .int (yI p), .int (yI w)] (yemb t) (.inl (some (.int (ytF' D p w)))) (yemb u) ∧ (yMI u D k E s0 s1 n B eo en ∧ (u.A 160 0 = 0 ∧ yFm t u)) := by
  have M0 := yMI_s1 (j := 0) (v := 0) M (by decide)
  have g := fun Q' => m_193 (d := d) M0.1 hp hw Q'
  have g1 := fun Q' => m_186 (d := d + 3) M0.1 (p := yI p) ys1_same Q'
  rw [hc] at g1
  have c1 : (decide ((0 : Int32) ≤ yI w ∧ yI w ≤ 3)) = true := decide_eq_true ⟨(yI_le (n := 0) (by decide) (by omega)).mpr (Nat.zero_le _), (yI_le (m := 3) (by omega) (by decide)).mpr (by omega)⟩
  refine ⟨t.s1 160 0 0, fun Q => ?_, M0, ys1_same, yFm_s1⟩
  show G (d + 5) 194 0 [some (.ref 160), some (.int (yI p)), some (.int (yI w))] [] (yemb t) Q ↔ _
  simp only [s_194_0, s_194_1, s_194_2, s_194_3, s_194_4, s_194_5, s_194_6, s_194_7, s_194_8, s_194_9, s_194_10, s_194_11, s_194_12, s_194_13, s_194_14, s_194_15, s_194_16, s_194_17, s_194_18, s_194_19, s_194_20, s_194_21, s_194_22, s_194_23, s_194_24, s_194_25, yO_160, g1, yb_f, m_125, c1, ifb, ifbn, Bool.not_true, Bool.false_eq_true, ne_eq, not_true_eq_false, if_true, if_false, m_124f yne20 ys1_same, g, Gk_v, Gk_n, xcat_nil, xcat_i, xcat_r, xcat_l, xcat_d, Nat.zero_le, Nat.reduceAdd, Nat.reduceLeDiff, true_and, and_true, ykl_i, ykl_r, ykl_n, ykl_l]
theorem p_194t (M : yMI t D k E s0 s1 n B eo en) {p x : Int32} : (yisf D p = false → ∃ u, Ra (d + 5) 194 [.ref 160, .int p, .int x] (yemb t) (.inl (some (.int 0))) (yemb u) ∧ (yMI u D k E s0 s1 n B eo en ∧ (u.A 160 0 = 1 ∧ yFm t u))) ∧ (yisf D p = true → yin0 3 x = false → ∃ u, Ra (d + 5) 194 [.ref 160, .int p, .int x] (yemb t) (.inl (some (.int 0))) (yemb u) ∧ (yMI u D k E s0 s1 n B eo en ∧ (u.A 160 0 = 2 ∧ yFm t u))) := by
  have M0 := yMI_s1 (j := 0) (v := 0) M (by decide)
  have g1 := fun Q' => m_186 (d := d + 3) M0.1 (p := p) ys1_same Q'
  constructor
  · intro hc
    rw [hc] at g1
    refine ⟨(t.s1 160 0 0).s1 160 0 1, fun Q => ?_, yMI_s1 M0 (by decide), ys1_same, yFm_trans yFm_s1 yFm_s1⟩
    show G (d + 5) 194 0 [some (.ref 160), some (.int p), some (.int x)] [] (yemb t) Q ↔ _
    simp only [s_194_0, s_194_1, s_194_2, s_194_3, s_194_4, s_194_5, s_194_6, s_194_7, s_194_8, s_194_9, s_194_10, s_194_11, s_194_12, s_194_13, s_194_14, s_194_15, s_194_16, s_194_17, s_194_18, s_194_19, s_194_20, s_194_21, s_194_22, s_194_23, s_194_24, s_194_25, yO_160, g1, yb_t, yne10, Bool.not_false, ne_eq, not_false_eq_true, if_true, Gk_v, Gk_n, xcat_nil, xcat_i, xcat_r, xcat_l, xcat_d, Nat.zero_le, Nat.reduceAdd, Nat.reduceLeDiff, true_and, and_true, ykl_i, ykl_r, ykl_n, ykl_l]
  · intro hc hx
    rw [hc] at g1
    have c1 : (decide ((0 : Int32) ≤ x ∧ x ≤ 3)) = false := hx
    refine ⟨(t.s1 160 0 0).s1 160 0 2, fun Q => ?_, yMI_s1 M0 (by decide), ys1_same, yFm_trans yFm_s1 yFm_s1⟩
    show G (d + 5) 194 0 [some (.ref 160), some (.int p), some (.int x)] [] (yemb t) Q ↔ _
    simp only [s_194_0, s_194_1, s_194_2, s_194_3, s_194_4, s_194_5, s_194_6, s_194_7, s_194_8, s_194_9, s_194_10, s_194_11, s_194_12, s_194_13, s_194_14, s_194_15, s_194_16, s_194_17, s_194_18, s_194_19, s_194_20, s_194_21, s_194_22, s_194_23, s_194_24, s_194_25, yO_160, g1, yb_f, m_125, c1, ifb, ifbn, Bool.not_true, Bool.false_eq_true, ne_eq, not_true_eq_false, if_true, if_false, m_124t yne20 ys1_same, yne10, Gk_v, Gk_n, xcat_nil, xcat_i, xcat_r, xcat_l, xcat_d, Nat.zero_le, Nat.reduceAdd, Nat.reduceLeDiff, true_and, and_true, ykl_i, ykl_r, ykl_n, ykl_l]
theorem k_230 (I : yInv t) (hz : t.z.1.1 < 900000) (p x : Int32) : ∃ u1 u c v, Ra (d + 5) 230 [.ref 0, .int p, .int x, .ref 183] (yemb t) (.inl (some (.int c))) (yemb u1) ∧ (Ra (d + 5) 194 [.ref 160, .int p, .int x] (yemb u1) (.inl (some (.int v))) (yemb u) ∧ yOK t u c v.toInt64) := by
  obtain ⟨⟨D, k, E, s0, s1, n, B, eo, en, C, M⟩, Z⟩ := I
  cases hp : yisf D p
  · obtain ⟨u, hu, M1, h0, Fm⟩ := (p_194t (d := d) (p := p) (x := x) (yMI_c M yFc_bp)).1 hp
    exact ⟨_, u, 1, 0, h_230_1 ((q_101t C hz).1 hp), hu, yOK_of Z yFc_bp (yCI_bp C) Fm M1 h0 (fun h => absurd h yne10)⟩
  · cases hc : yin0 3 x
    · obtain ⟨u, hu, M1, h0, Fm⟩ := (p_194t (d := d) (p := p) (x := x) (yMI_c M yFc_bp)).2 hp hc
      exact ⟨_, u, 2, 0, h_230_0 ((q_101t C hz).2 hp hc), hu, yOK_of Z yFc_bp (yCI_bp C) Fm M1 h0 (fun h => absurd h yne20)⟩
    · obtain ⟨w, hw, rfl⟩ := yrange (m := 3) (by decide) (of_decide_eq_true hc)
      obtain ⟨q, hq, rfl⟩ := yisf_of C.1.ok.f6 hp
      have Fc := yFc_out (j := 0) (v := (ytF' D q w).toInt64) (yFc_rfl (t := t))
      obtain ⟨u, hu, M1, h0, Fm⟩ := p_194 (d := d) (yMI_c M Fc) (w := w) hq hp (by omega)
      exact ⟨_, u, 0, _, h_230 (m_101 (d := d) C.1 hq hp (by omega)), hu, yOK_of Z Fc (yCI_out C) Fm M1 h0 (fun _ => yoL)⟩
/- why -/
theorem k_231 (I : yInv t) (hz : t.z.1.1 < 900000) (p : Int32) : ∃ u1 u c v, Ra (d + 6) 231 [.ref 0, .int p, .ref 183] (yemb t) (.inl (some (.int c))) (yemb u1) ∧ (Ra (d + 5) 196 [.ref 160, .int p] (yemb u1) (.inl (some (.int v))) (yemb u) ∧ yOK t u c v.toInt64) := by
  obtain ⟨⟨D, k, E, s0, s1, n, B, eo, en, C, M⟩, Z⟩ := I
  have g := fun (Q : xR → xS → Prop) => m_102 (d := d) (Q := Q) C.1 hz (p := p)
  cases hc : yisp D p
  · have hc' := of_decide_eq_false hc
    have M1 := yMI_c M (yFc_bp (t := t))
    have M0 := yMI_s1 (j := 0) (v := 0) M1 (by decide)
    have g1 := fun Q' => m_185' (d := d + 3) M0.1 (p := p) ys1_same Q'
    rw [hc] at g1
    have hq : Ra (d + 5) 102 [.ref 0, .int p] (yemb t) (.inr 1) (yemb t.bp) := fun Q => by
      rw [g Q, if_neg hc']
    refine ⟨_, (t.bp.s1 160 0 0).s1 160 0 1, 1, 0, h_231_1 hq, fun Q => ?_, yOK_of Z yFc_bp (yCI_bp C) (yFm_trans yFm_s1 yFm_s1) (yMI_s1 M0 (by decide)) ys1_same (fun h => absurd h yne10)⟩
    show G (d + 5) 196 0 [some (.ref 160), some (.int p)] [] (yemb t.bp) Q ↔ _
    simp only [s_196_0, s_196_1, s_196_2, s_196_3, s_196_4, s_196_5, s_196_6, s_196_7, s_196_8, s_196_9, s_196_10, s_196_11, s_196_12, s_196_13, s_196_14, s_196_15, s_196_16, s_196_17, s_196_18, s_196_19, s_196_20, s_196_21, s_196_22, s_196_23, s_196_24, s_196_25, s_196_26, s_196_27, s_196_28, s_196_29, s_196_30, s_196_31, s_196_32, s_196_33, s_196_34, s_196_35, s_196_36, s_196_37, s_196_38, s_196_39, s_196_40, s_196_41, s_196_42, s_196_43, s_196_44, s_196_45, s_196_46, s_196_47, s_196_48, s_196_49, s_196_50, s_196_51, s_196_52, s_196_53, s_196_54, s_196_55, s_196_56, s_196_57, s_196_58, s_196_59, s_196_60, s_196_61, s_196_62, s_196_63, s_196_64, s_196_65, s_196_66, s_196_67, s_196_68, s_196_69, s_196_70, s_196_71, s_196_72, s_196_73, s_196_74, s_196_75, s_196_76, s_196_77, s_196_78, yO_160, g1, ifb, Bool.not_false, if_true, Gk_v, Gk_n, xcat_nil, xcat_i, xcat_r, xcat_l, xcat_d, Nat.zero_le, Nat.reduceAdd, Nat.reduceLeDiff, true_and, and_true, ykl_i, ykl_r, ykl_n, ykl_l]
  · have hc' := of_decide_eq_true hc
    obtain ⟨q, hq, rfl⟩ := yisp_of C.1.ok.n40 hc
    have hn40 := C.1.ok.n40
    have e : (yI q).toNatClampNeg = q := yI_clamp (by omega)
    have hq' : Ra (d + 5) 102 [.ref 0, .int (yI q)] (yemb t) (.inl (some (.int (ywhy D q)))) (yemb t) := fun Q => by
      rw [g Q, if_pos hc', e]
    have Fc := yFc_out (j := 0) (v := (ywhy D q).toInt64) (yFc_rfl (t := t))
    have M1 := yMI_c M Fc
    have M0 := yMI_s1 (j := 0) (v := 0) M1 (by decide)
    exact ⟨_, _, 0, _, h_231 hq', fun Q => m_196 M1.1 hq, yOK_of Z Fc (yCI_out C) yFm_s1 M0 ys1_same (fun _ => yoL)⟩
end

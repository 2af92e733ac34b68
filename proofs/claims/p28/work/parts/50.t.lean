/-! ===== damage, undo, keep, restore ===== -/
theorem yK3 {k : Int32} (h1 : 0 ≤ k) (h2 : k ≤ 3) : k = 0 ∨ k = 1 ∨ k = 2 ∨ k = 3 := by
  obtain ⟨n, hn, rfl⟩ := yrange (m := 3) (by decide) ⟨h1, h2⟩
  rcases (by omega : n = 0 ∨ n = 1 ∨ n = 2 ∨ n = 3) with h | h | h | h <;> subst h
  · exact Or.inl rfl
  · exact Or.inr (Or.inl rfl)
  · exact Or.inr (Or.inr (Or.inl rfl))
  · exact Or.inr (Or.inr (Or.inr rfl))
/-- whether kind and period are as told -/
def ykok (k v : Int32) : Bool := decide ((0 : Int32) ≤ k ∧ k ≤ 3) && yper k v
/-- whether it would be the eleventh bad one -/
def yfull (D : yD) (p : Nat) (k : Int32) : Bool := decide (D.kd p = 0) && (decide (¬ k = 0) && decide (10 ≤ ybad D.kd D.n))
section
variable {d : Nat} {t : yT} {D : yD} {k : Nat} {E : Nat → yD} {s0 s1 : Option yD} {n : Nat} {B : Nat → Nat} {eo en : Int32}
theorem ykp_ok (h : yDok D) {p : Nat} (hp : p < D.n) {x v : Int32} (hk : ykok x v = true) (hf : yfull D p x = false) : yDok (ykp D p x v) := by
  unfold ykok at hk
  rw [Bool.and_eq_true] at hk
  have hk1 := of_decide_eq_true hk.1
  refine yDok_kp h hp (yK3 hk1.1 hk1.2) ?_ ?_
  · intro h3
    have h2 := hk.2
    unfold yper at h2
    rw [if_pos h3] at h2
    have h4 := of_decide_eq_true h2
    obtain ⟨q, hq, rfl⟩ := yrange (x := v) (m := 9) (by decide) ⟨Int32.le_trans (by decide) h4.1, h4.2⟩
    exact ⟨q, ⟨(yI_le (n := 2) (by decide) (by omega)).mp h4.1, by omega⟩, rfl⟩
  · intro h0 hx
    unfold yfull at hf
    rw [decide_eq_true h0, decide_eq_true hx] at hf
    simp only [Bool.true_and] at hf
    have := of_decide_eq_false hf
    omega
theorem q_113 (C : yCI t D k E s0 s1 n B eo en) {p : Nat} (hp : p < D.n) (hc : yisp D (yI p) = true) {x v : Int32} (hk : ykok x v = true) (hf : yfull D p x = false) : ∃ u, Ra (d + 2) 113 [.ref 0, .int (yI p), .int x, .int v] (yemb t) (.inl (some (.int (D.kd p)))) (yemb u) ∧ (yCI u (ykp D p x v) (min 8 (k + 1)) (ypush D E) s0 s1 n B eo en ∧ yFr (fun a => a < 160) t u) := by
  have hn40 := C.1.ok.n40
  have hb10 := C.1.ok.bad
  obtain ⟨u1, h1, C1, F1⟩ := q_6 (d := d) C
  have h2 := fun Q' => m_36 (d := d + 1) (t := u1) yO_7 (p := p) (k := x) (v := v) (by omega) Q'
  have W2 : yW ((u1.s1 (7 + 3) p x).s1 (7 + 4) p v) 7 (ykp D p x v) := ⟨ykp_ok C.1.ok hp hk hf, yV_kp C1.1.v⟩
  have g1 := fun Q' => m_32' (d := d + 1) C.1 (j := yI p) Q'
  have g2 := fun Q' => m_37 (d := d + 1) C.1 Q'
  have hw : yodd D.kd D.n < 18446744073709551616 := Nat.lt_of_lt_of_le (yodd_lt _) (Nat.le_trans (Nat.pow_le_pow_right (by decide) hn40) (by decide))
  have g3 := fun Q' => m_216 (d := d + 1) (σ := yemb t) (Q := Q') hw
  rw [ybad_pc C.1.ok] at g3
  have c3 : yix (yI p) 40 := yix_I (by omega) (by omega)
  have c4 : (yI p).toNatClampNeg = p := yI_clamp (by omega)
  have c5 : t.A 10 p = D.kd p := C.1.kd p (by omega)
  have hk' := hk
  unfold ykok at hk
  rw [Bool.and_eq_true] at hk
  have hk1 := of_decide_eq_true hk.1
  have k1 : ¬ x < 0 := Int32.not_lt.mpr hk1.1
  have k2 : ¬ 3 < x := Int32.not_lt.mpr hk1.2
  have hk2 := hk.2
  refine ⟨(u1.s1 (7 + 3) p x).s1 (7 + 4) p v, fun Q => ?_, yCI_D C1 ((yFr_s1 (P := fun a => a = 10) rfl).trans (yFr_s1 (P := fun a => a = 11) rfl) (P'' := fun a => a = 10 ∨ a = 11) (fun a h => by omega)) (fun a h => by omega) W2, F1.trans ((yFr_s1 (P := fun a => a = 10) rfl).trans (yFr_s1 (P := fun a => a = 11) rfl) (P'' := fun a => a = 10 ∨ a = 11) (fun a h => by omega)) (fun a h => by omega)⟩
  show G (d + 2) 113 0 [some (.ref 0), some (.int (yI p)), some (.int x), some (.int v), none] [] (yemb t) Q ↔ _
  by_cases h0 : D.kd p = 0
  · by_cases hx : x = 0
    · subst hx
      simp only [s_113_0, s_113_1, s_113_2, s_113_3, s_113_4, s_113_5, s_113_6, s_113_6i, s_113_9, s_113_10, s_113_11, s_113_12, s_113_13, s_113_14, s_113_15, s_113_16, s_113_17, s_113_18, s_113_19, s_113_19i, s_113_22, s_113_23, s_113_24, s_113_25, s_113_26, s_113_27, s_113_28, s_113_29, s_113_30, s_113_31, s_113_32, s_113_33, s_113_34, s_113_35, s_113_36, s_113_37, s_113_38, s_113_39, s_113_39i, s_113_42, s_113_43, s_113_44, s_113_45, s_113_46, s_113_47, s_113_48, s_113_49, s_113_50, s_113_51, s_113_52, s_113_53, s_113_54, yO_0, yO_7, yO_38, yA_10, yn_10, g1, hc, ifbn, if_true, if_false, k1, k2, m_120, hk2, c3, c4, c5, h0, ne_eq, not_true_eq_false, h1, h2, Gk_v, Gk_n, xcat_nil, xcat_i, xcat_r, xcat_l, xcat_d, Nat.zero_le, Nat.reduceAdd, Nat.reduceLeDiff, true_and, and_true, ykl_i, ykl_r, ykl_n, ykl_l]
    · have hfl : ¬ 10 ≤ ybad D.kd D.n := by
        unfold yfull at hf
        rw [decide_eq_true h0, decide_eq_true hx] at hf
        simp only [Bool.true_and] at hf
        exact of_decide_eq_false hf
      have c6 : yI (ybad D.kd D.n) < 10 := (yI_lt (m := 10) (by omega) (by decide)).mpr (by omega)
      simp only [s_113_0, s_113_1, s_113_2, s_113_3, s_113_4, s_113_5, s_113_6, s_113_6i, s_113_9, s_113_10, s_113_11, s_113_12, s_113_13, s_113_14, s_113_15, s_113_16, s_113_17, s_113_18, s_113_19, s_113_19i, s_113_22, s_113_23, s_113_24, s_113_25, s_113_26, s_113_27, s_113_28, s_113_29, s_113_30, s_113_31, s_113_32, s_113_33, s_113_34, s_113_35, s_113_36, s_113_37, s_113_38, s_113_39, s_113_39i, s_113_42, s_113_43, s_113_44, s_113_45, s_113_46, s_113_47, s_113_48, s_113_49, s_113_50, s_113_51, s_113_52, s_113_53, s_113_54, yO_0, yO_7, yO_38, yA_10, yn_10, g1, g2, g3, hc, ifbn, if_true, if_false, k1, k2, m_120, hk2, c3, c4, c5, c6, h0, hx, ne_eq, not_true_eq_false, h1, h2, Gk_v, Gk_n, xcat_nil, xcat_i, xcat_r, xcat_l, xcat_d, Nat.zero_le, Nat.reduceAdd, Nat.reduceLeDiff, true_and, and_true, ykl_i, ykl_r, ykl_n, ykl_l]
  · simp only [s_113_0, s_113_1, s_113_2, s_113_3, s_113_4, s_113_5, s_113_6, s_113_6i, s_113_9, s_113_10, s_113_11, s_113_12, s_113_13, s_113_14, s_113_15, s_113_16, s_113_17, s_113_18, s_113_19, s_113_19i, s_113_22, s_113_23, s_113_24, s_113_25, s_113_26, s_113_27, s_113_28, s_113_29, s_113_30, s_113_31, s_113_32, s_113_33, s_113_34, s_113_35, s_113_36, s_113_37, s_113_38, s_113_39, s_113_39i, s_113_42, s_113_43, s_113_44, s_113_45, s_113_46, s_113_47, s_113_48, s_113_49, s_113_50, s_113_51, s_113_52, s_113_53, s_113_54, yO_0, yO_7, yO_38, yA_10, yn_10, g1, hc, ifbn, if_true, if_false, k1, k2, m_120, hk2, c3, c4, c5, h0, ne_eq, not_false_eq_true, h1, h2, Gk_v, Gk_n, xcat_nil, xcat_i, xcat_r, xcat_l, xcat_d, Nat.zero_le, Nat.reduceAdd, Nat.reduceLeDiff, true_and, and_true, ykl_i, ykl_r, ykl_n, ykl_l]
theorem q_113t (C : yCI t D k E s0 s1 n B eo en) {p x v : Int32} (hz : t.z.1.1 < 900000) : (yisp D p = false → Ra (d + 2) 113 [.ref 0, .int p, .int x, .int v] (yemb t) (.inr 1) (yemb t.bp)) ∧ (yisp D p = true → ykok x v = false → Ra (d + 2) 113 [.ref 0, .int p, .int x, .int v] (yemb t) (.inr 0) (yemb t.bp)) := by
  have g1 := fun Q' => m_32' (d := d + 1) C.1 (j := p) Q'
  constructor
  · intro hc Q
    rw [hc] at g1
    show G (d + 2) 113 0 [some (.ref 0), some (.int p), some (.int x), some (.int v), none] [] (yemb t) Q ↔ _
    simp only [s_113_0, s_113_1, s_113_2, s_113_3, s_113_4, s_113_5, s_113_6, s_113_6i, s_113_9, s_113_10, s_113_11, s_113_12, s_113_13, s_113_14, s_113_15, s_113_16, s_113_17, s_113_18, s_113_19, s_113_19i, s_113_22, s_113_23, s_113_24, s_113_25, s_113_26, s_113_27, s_113_28, s_113_29, s_113_30, s_113_31, s_113_32, s_113_33, s_113_34, s_113_35, s_113_36, s_113_37, s_113_38, s_113_39, s_113_39i, s_113_42, s_113_43, s_113_44, s_113_45, s_113_46, s_113_47, s_113_48, s_113_49, s_113_50, s_113_51, s_113_52, s_113_53, s_113_54, yO_0, yO_7, g1, ifbn, Bool.false_eq_true, if_false, xbump_z hz, xbump_emb, Gk_v, Gk_n, xcat_nil, xcat_i, xcat_r, xcat_l, xcat_d, Nat.zero_le, Nat.reduceAdd, Nat.reduceLeDiff, true_and, and_true, ykl_i, ykl_r, ykl_n, ykl_l]
  · intro hc hk Q
    rw [hc] at g1
    show G (d + 2) 113 0 [some (.ref 0), some (.int p), some (.int x), some (.int v), none] [] (yemb t) Q ↔ _
    by_cases k1 : x < 0
    · simp only [s_113_0, s_113_1, s_113_2, s_113_3, s_113_4, s_113_5, s_113_6, s_113_6i, s_113_9, s_113_10, s_113_11, s_113_12, s_113_13, s_113_14, s_113_15, s_113_16, s_113_17, s_113_18, s_113_19, s_113_19i, s_113_22, s_113_23, s_113_24, s_113_25, s_113_26, s_113_27, s_113_28, s_113_29, s_113_30, s_113_31, s_113_32, s_113_33, s_113_34, s_113_35, s_113_36, s_113_37, s_113_38, s_113_39, s_113_39i, s_113_42, s_113_43, s_113_44, s_113_45, s_113_46, s_113_47, s_113_48, s_113_49, s_113_50, s_113_51, s_113_52, s_113_53, s_113_54, yO_0, yO_7, g1, ifbn, if_true, k1, xbump_z hz, xbump_emb, Gk_v, Gk_n, xcat_nil, xcat_i, xcat_r, xcat_l, xcat_d, Nat.zero_le, Nat.reduceAdd, Nat.reduceLeDiff, true_and, and_true, ykl_i, ykl_r, ykl_n, ykl_l]
    · by_cases k2 : 3 < x
      · simp only [s_113_0, s_113_1, s_113_2, s_113_3, s_113_4, s_113_5, s_113_6, s_113_6i, s_113_9, s_113_10, s_113_11, s_113_12, s_113_13, s_113_14, s_113_15, s_113_16, s_113_17, s_113_18, s_113_19, s_113_19i, s_113_22, s_113_23, s_113_24, s_113_25, s_113_26, s_113_27, s_113_28, s_113_29, s_113_30, s_113_31, s_113_32, s_113_33, s_113_34, s_113_35, s_113_36, s_113_37, s_113_38, s_113_39, s_113_39i, s_113_42, s_113_43, s_113_44, s_113_45, s_113_46, s_113_47, s_113_48, s_113_49, s_113_50, s_113_51, s_113_52, s_113_53, s_113_54, yO_0, yO_7, g1, ifbn, if_true, if_false, k1, k2, xbump_z hz, xbump_emb, Gk_v, Gk_n, xcat_nil, xcat_i, xcat_r, xcat_l, xcat_d, Nat.zero_le, Nat.reduceAdd, Nat.reduceLeDiff, true_and, and_true, ykl_i, ykl_r, ykl_n, ykl_l]
      · have hp : yper x v = false := by
          unfold ykok at hk
          rw [decide_eq_true (⟨Int32.not_lt.mp k1, Int32.not_lt.mp k2⟩ : (0 : Int32) ≤ x ∧ x ≤ 3), Bool.true_and] at hk
          exact hk
        simp only [s_113_0, s_113_1, s_113_2, s_113_3, s_113_4, s_113_5, s_113_6, s_113_6i, s_113_9, s_113_10, s_113_11, s_113_12, s_113_13, s_113_14, s_113_15, s_113_16, s_113_17, s_113_18, s_113_19, s_113_19i, s_113_22, s_113_23, s_113_24, s_113_25, s_113_26, s_113_27, s_113_28, s_113_29, s_113_30, s_113_31, s_113_32, s_113_33, s_113_34, s_113_35, s_113_36, s_113_37, s_113_38, s_113_39, s_113_39i, s_113_42, s_113_43, s_113_44, s_113_45, s_113_46, s_113_47, s_113_48, s_113_49, s_113_50, s_113_51, s_113_52, s_113_53, s_113_54, yO_0, yO_7, g1, ifbn, Bool.false_eq_true, if_true, if_false, k1, k2, m_120, hp, xbump_z hz, xbump_emb, Gk_v, Gk_n, xcat_nil, xcat_i, xcat_r, xcat_l, xcat_d, Nat.zero_le, Nat.reduceAdd, Nat.reduceLeDiff, true_and, and_true, ykl_i, ykl_r, ykl_n, ykl_l]
theorem q_113s (C : yCI t D k E s0 s1 n B eo en) {p : Nat} (hp : p < D.n) (hc : yisp D (yI p) = true) {x v : Int32} (hz : t.z.1.1 < 900000) (hk : ykok x v = true) (hf : yfull D p x = true) : Ra (d + 2) 113 [.ref 0, .int (yI p), .int x, .int v] (yemb t) (.inr 2) (yemb t.bp) := by
  intro Q
  have hn40 := C.1.ok.n40
  have hb10 := C.1.ok.bad
  have g1 := fun Q' => m_32' (d := d + 1) C.1 (j := yI p) Q'
  have g2 := fun Q' => m_37 (d := d + 1) C.1 Q'
  have hw : yodd D.kd D.n < 18446744073709551616 := Nat.lt_of_lt_of_le (yodd_lt _) (Nat.le_trans (Nat.pow_le_pow_right (by decide) hn40) (by decide))
  have g3 := fun Q' => m_216 (d := d + 1) (σ := yemb t) (Q := Q') hw
  rw [ybad_pc C.1.ok] at g3
  have c3 : yix (yI p) 40 := yix_I (by omega) (by omega)
  have c4 : (yI p).toNatClampNeg = p := yI_clamp (by omega)
  have c5 : t.A 10 p = D.kd p := C.1.kd p (by omega)
  unfold ykok at hk
  rw [Bool.and_eq_true] at hk
  have hk1 := of_decide_eq_true hk.1
  have k1 : ¬ x < 0 := Int32.not_lt.mpr hk1.1
  have k2 : ¬ 3 < x := Int32.not_lt.mpr hk1.2
  have hk2 := hk.2
  unfold yfull at hf
  rw [Bool.and_eq_true, Bool.and_eq_true] at hf
  have h0 := of_decide_eq_true hf.1
  have hx := of_decide_eq_true hf.2.1
  have h10 := of_decide_eq_true hf.2.2
  have c6 : ¬ yI (ybad D.kd D.n) < 10 := fun h => absurd ((yI_lt (m := 10) (by omega) (by decide)).mp h) (by omega)
  show G (d + 2) 113 0 [some (.ref 0), some (.int (yI p)), some (.int x), some (.int v), none] [] (yemb t) Q ↔ _
  simp only [s_113_0, s_113_1, s_113_2, s_113_3, s_113_4, s_113_5, s_113_6, s_113_6i, s_113_9, s_113_10, s_113_11, s_113_12, s_113_13, s_113_14, s_113_15, s_113_16, s_113_17, s_113_18, s_113_19, s_113_19i, s_113_22, s_113_23, s_113_24, s_113_25, s_113_26, s_113_27, s_113_28, s_113_29, s_113_30, s_113_31, s_113_32, s_113_33, s_113_34, s_113_35, s_113_36, s_113_37, s_113_38, s_113_39, s_113_39i, s_113_42, s_113_43, s_113_44, s_113_45, s_113_46, s_113_47, s_113_48, s_113_49, s_113_50, s_113_51, s_113_52, s_113_53, s_113_54, yO_0, yO_7, yO_38, yA_10, yn_10, g1, g2, g3, hc, ifbn, if_true, if_false, k1, k2, m_120, hk2, c3, c4, c5, c6, h0, hx, ne_eq, not_true_eq_false, xbump_z hz, xbump_emb, Gk_v, Gk_n, xcat_nil, xcat_i, xcat_r, xcat_l, xcat_d, Nat.zero_le, Nat.reduceAdd, Nat.reduceLeDiff, true_and, and_true, ykl_i, ykl_r, ykl_n, ykl_l]
theorem yper_in {x v : Int32} : (decide (x = 3) && !decide ((2 : Int32) ≤ v ∧ v ≤ 9) || (!decide (x = 3) && !decide (v = 0))) = !yper x v := by
  unfold yper
  by_cases h : x = 3
  · simp [h]
  · simp [h]
end

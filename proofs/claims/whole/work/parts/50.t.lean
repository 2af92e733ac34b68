/-! ===== damage, undo, keep, restore ===== -/
theorem yK3 {k : Int32} (h1 : 0 ≤ k) (h2 : k ≤ 3) : k = 0 ∨ k = 1 ∨ k = 2 ∨ k = 3 := by
  obtain ⟨n, hn, rfl⟩ := yrange (m := 3) (by decide) ⟨h1, h2⟩
  rcases (by omega : n = 0 ∨ n = 1 ∨ n = 2 ∨ n = 3) with h | h | h | h <;> subst h
  · exact Or.inl rfl
  · exact Or.inr (Or.inl rfl)
  · exact Or.inr (Or.inr (Or.inl rfl))
  · exact Or.inr (Or.inr (Or.inr rfl))
/-- whether kind and period are as told -/
def ykok (k v : Int32) : Bool := decide ((0 : Int32) ≤ k ∧ k ≤ 3) && yper k v
/-- whether it would be the eleventh bad one -/
def yfull (D : yD) (p : Nat) (k : Int32) : Bool := decide (D.kd p = 0) && (decide (¬ k = 0) && decide (10 ≤ ybad D.kd D.n))
section
variable {d : Nat} {t : yT} {D : yD} {k : Nat} {E : Nat → yD} {s0 s1 : Option yD} {n : Nat} {B : Nat → Nat} {eo en : Int32}
theorem ykp_ok (h : yDok D) {p : Nat} (hp : p < D.n) {x v : Int32} (hk : ykok x v = true) (hf : yfull D p x = false) : yDok (ykp D p x v) := by
  unfold ykok at hk
  rw [Bool.and_eq_true] at hk
  have hk1 := of_decide_eq_true hk.1
  refine yDok_kp h hp (yK3 hk1.1 hk1.2) ?_ ?_
  · intro h3
    have h2 := hk.2
    unfold yper at h2
    rw [if_pos h3] at h2
    have h4 := of_decide_eq_true h2
    obtain ⟨q, hq, rfl⟩ := yrange (x := v) (m := 9) (by decide) ⟨Int32.le_trans (by decide) h4.1, h4.2⟩
    exact ⟨q, ⟨(yI_le (n := 2) (by decide) (by omega)).mp h4.1, by omega⟩, rfl⟩
  · intro h0 hx
    unfold yfull at hf
    rw [decide_eq_true h0, decide_eq_true hx] at hf
    simp only [Bool.true_and] at hf
    have := of_decide_eq_false hf
    omega
theorem q_113 (C : yCI t D k E s0 s1 n B eo en) {p : Nat} (hp : p < D.n) (hc : yisp D (yI p) = true) {x v : Int32} (hk : ykok x v = true) (hf : yfull D p x = false) : ∃ u, Ra (d + 2) 113 [.ref 0, .int (yI p), .int x, .int v] (yemb t) (.inl (some (.int (D.kd p)))) (yemb u) ∧ (yCI u (ykp D p x v) (min 8 (k + 1)) (ypush D E) s0 s1 n B eo en ∧ yFr (fun a => a < 160) t u) := by
  have hn40 := C.1.ok.n40
  have hb10 := C.1.ok.bad
  obtain ⟨u1, h1, C1, F1⟩ := q_6 (d := d) C
  have h2 := fun Q' => m_36 (d := d + 1) (t := u1) yO_7 (p := p) (k := x) (v := v) (by omega) Q'
  have W2 : yW ((u1.s1 (7 + 3) p x).s1 (7 + 4) p v) 7 (ykp D p x v) := ⟨ykp_ok C.1.ok hp hk hf, yV_kp C1.1.v⟩
  have g1 := fun Q' => m_32' (d := d + 1) C.1 (j := yI p) Q'
  have g2 := fun Q' => m_37 (d := d + 1) C.1 Q'
  have hw : yodd D.kd D.n < 18446744073709551616 := Nat.lt_of_lt_of_le (yodd_lt _) (Nat.le_trans (Nat.pow_le_pow_right (by decide) hn40) (by decide))
  have g3 := fun Q' => m_216 (d := d + 1) (σ := yemb t) (Q := Q') hw
  rw [ybad_pc C.1.ok] at g3
  have c3 : yix (yI p) 40 := yix_I (by omega) (by omega)
  have c4 : (yI p).toNatClampNeg = p := yI_clamp (by omega)
  have c5 : t.A 10 p = D.kd p := C.1.kd p (by omega)
  have hk' := hk
  unfold ykok at hk
  rw [Bool.and_eq_true] at hk
  have hk1 := of_decide_eq_true hk.1
  have k1 : ¬ x < 0 := Int32.not_lt.mpr hk1.1
  have k2 : ¬ 3 < x := Int32.not_lt.mpr hk1.2
  have hk2 := hk.2
  refine ⟨(u1.s1 (7 + 3) p x).s1 (7 + 4) p v, fun Q => ?_, yCI_D C1 ((yFr_s1 (P := fun a => a = 10) rfl).trans (yFr_s1 (P := fun a => a = 11) rfl) (P'' := fun a => a = 10 ∨ a = 11) (fun a h => by omega)) (fun a h => by omega) W2, F1.trans ((yFr_s1 (P := fun a => a = 10) rfl).trans (yFr_s1 (P := fun a => a = 11) rfl) (P'' := fun a => a = 10 ∨ a = 11) (fun a h => by omega)) (fun a h => by omega)⟩
  show G (d + 2) 113 0 [some (.ref 0), some (.int (yI p)), some (.int x), some (.int v), none] [] (yemb t) Q ↔ _
  by_cases h0 : D.kd p = 0
  · by_cases hx : x = 0
    · subst hx
      simp only [s_113_0, s_113_1, s_113_2, s_113_3, s_113_4, s_113_5, s_113_6, s_113_6i, s_113_9, s_113_10, s_113_11, s_113_12, s_113_13, s_113_14, s_113_15, s_113_16, s_113_17, s_113_18, s_113_19, s_113_19i, s_113_22, s_113_23, s_113_24, s_113_25, s_113_26, s_113_27, s_113_28, s_113_29, s_113_30, s_113_31, s_113_32, s_113_33, s_113_34, s_113_35, s_113_36, s_113_37, s_113_38, s_113_39, s_113_39i, s_113_42, s_113_43, s_113_44, s_113_45, s_113_46, s_113_47, s_113_48, s_113_49, s_113_50, s_113_51, s_113_52, s_113_53, s_113_54, yO_0, yO_7, yO_38, yA_10, yn_10, g1, hc, ifbn, if_true, if_false, k1, k2, m_120, hk2, c3, c4, c5, h0, ne_eq, not_true_eq_false, h1, h2, Gk_v, Gk_n, xcat_nil, xcat_i, xcat_r, xcat_l, xcat_d, Nat.zero_le, Nat.reduceAdd, Nat.reduceLeDiff, true_and, and_true, ykl_i, ykl_r, ykl_n, ykl_l]
    · have hfl : ¬ 10 ≤ ybad D.kd D.n := by
        unfold yfull at hf
        rw [decide_eq_true h0, decide_eq_true hx] at hf
        simp only [Bool.true_and] at hf
        exact of_decide_eq_false hf
      have c6 : yI (ybad D.kd D.n) < 10 := (yI_lt (m := 10) (by omega) (by decide)).mpr (by omega)
      simp only [s_113_0, s_113_1, s_113_2, s_113_3, s_113_4, s_113_5, s_113_6, s_113_6i, s_113_9, s_113_10, s_113_11, s_113_12, s_113_13, s_113_14, s_113_15, s_113_16, s_113_17, s_113_18, s_113_19, s_113_19i, s_113_22, s_113_23, s_113_24, s_113_25, s_113_26, s_113_27, s_113_28, s_113_29, s_113_30, s_113_31, s_113_32, s_113_33, s_113_34, s_113_35, s_113_36, s_113_37, s_113_38, s_113_39, s_113_39i, s_113_42, s_113_43, s_113_44, s_113_45, s_113_46, s_113_47, s_113_48, s_113_49, s_113_50, s_113_51, s_113_52, s_113_53, s_113_54, yO_0, yO_7, yO_38, yA_10, yn_10, g1, g2, g3, hc, ifbn, if_true, if_false, k1, k2, m_120, hk2, c3, c4, c5, c6, h0, hx, ne_eq, not_true_eq_false, h1, h2, Gk_v, Gk_n, xcat_nil, xcat_i, xcat_r, xcat_l, xcat_d, Nat.zero_le, Nat.reduceAdd, Nat.reduceLeDiff, true_and, and_true, ykl_i, ykl_r, ykl_n, ykl_l]
  · simp only [s_113_0, s_113_1, s_113_2, s_113_3, s_113_4, s_113_5, s_113_6, s_113_6i, s_113_9, s_113_10, s_113_11, s_113_12, s_113_13, s_113_14, s_113_15, s_113_16, s_113_17, s_113_18, s_113_19, s_113_19i, s_113_22, s_113_23, s_113_24, s_113_25, s_113_26, s_113_27, s_113_28, s_113_29, s_113_30, s_113_31, s_113_32, s_113_33, s_113_34, s_113_35, s_113_36, s_113_37, s_113_38, s_113_39, s_113_39i, s_113_42, s_113_43, s_113_44, s_113_45, s_113_46, s_113_47, s_113_48, s_113_49, s_113_50, s_113_51, s_113_52, s_113_53, s_113_54, yO_0, yO_7, yO_38, yA_10, yn_10, g1, hc, ifbn, if_true, if_false, k1, k2, m_120, hk2, c3, c4, c5, h0, ne_eq, not_false_eq_true, h1, h2, Gk_v, Gk_n, xcat_nil, xcat_i, xcat_r, xcat_l, xcat_d, Nat.zero_le, Nat.reduceAdd, Nat.reduceLeDiff, true_and, and_true, ykl_i, ykl_r, ykl_n, ykl_l]
theorem q_113t (C : yCI t D k E s0 s1 n B eo en) {p x v : Int32} (hz : t.z.1.1 < 900000) : (yisp D p = false → Ra (d + 2) 113 [.ref 0, .int p, .int x, .int v] (yemb t) (.inr 1) (yemb t.bp)) ∧ (yisp D p = true → ykok x v = false → Ra (d + 2) 113 [.ref 0, .int p, .int x, .int v] (yemb t) (.inr 0) (yemb t.bp)) := by
  have g1 := fun Q' => m_32' (d := d + 1) C.1 (j := p) Q'
  constructor
  · intro hc Q
    rw [hc] at g1
    show G (d + 2) 113 0 [some (.ref 0), some (.int p), some (.int x), some (.int v), none] [] (yemb t) Q ↔ _
    simp only [s_113_0, s_113_1, s_113_2, s_113_3, s_113_4, s_113_5, s_113_6, s_113_6i, s_113_9, s_113_10, s_113_11, s_113_12, s_113_13, s_113_14, s_113_15, s_113_16, s_113_17, s_113_18, s_113_19, s_113_19i, s_113_22, s_113_23, s_113_24, s_113_25, s_113_26, s_113_27, s_113_28, s_113_29, s_113_30, s_113_31, s_113_32, s_113_33, s_113_34, s_113_35, s_113_36, s_113_37, s_113_38, s_113_39, s_113_39i, s_113_42, s_113_43, s_113_44, s_113_45, s_113_46, s_113_47, s_113_48, s_113_49, s_113_50, s_113_51, s_113_52, s_113_53, s_113_54, yO_0, yO_7, g1, ifbn, Bool.false_eq_true, if_false, xbump_z hz, xbump_emb, Gk_v, Gk_n, xcat_nil, xcat_i, xcat_r, xcat_l, xcat_d, Nat.zero_le, Nat.reduceAdd, Nat.reduceLeDiff, true_and, and_true, ykl_i, ykl_r, ykl_n, ykl_l]
  · intro hc hk Q
    rw [hc] at g1
    show G (d + 2) 113 0 [some (.ref 0), some (.int p), some (.int x), some (.int v), none] [] (yemb t) Q ↔ _
    by_cases k1 : x < 0
    · simp only [s_113_0, s_113_1, s_113_2, s_113_3, s_113_4, s_113_5, s_113_6, s_113_6i, s_113_9, s_113_10, s_113_11, s_113_12, s_113_13, s_113_14, s_113_15, s_113_16, s_113_17, s_113_18, s_113_19, s_113_19i, s_113_22, s_113_23, s_113_24, s_113_25, s_113_26, s_113_27, s_113_28, s_113_29, s_113_30, s_113_31, s_113_32, s_113_33, s_113_34, s_113_35, s_113_36, s_113_37, s_113_38, s_113_39, s_113_39i, s_113_42, s_113_43, s_113_44, s_113_45, s_113_46, s_113_47, s_113_48, s_113_49, s_113_50, s_113_51, s_113_52, s_113_53, s_113_54, yO_0, yO_7, g1, ifbn, if_true, k1, xbump_z hz, xbump_emb, Gk_v, Gk_n, xcat_nil, xcat_i, xcat_r, xcat_l, xcat_d, Nat.zero_le, Nat.reduceAdd, Nat.reduceLeDiff, true_and, and_true, ykl_i, ykl_r, ykl_n, ykl_l]
    · by_cases k2 : 3 < x
      · simp only [s_113_0, s_113_1, s_113_2, s_113_3, s_113_4, s_113_5, s_113_6, s_113_6i, s_113_9, s_113_10, s_113_11, s_113_12, s_113_13, s_113_14, s_113_15, s_113_16, s_113_17, s_113_18, s_113_19, s_113_19i, s_113_22, s_113_23, s_113_24, s_113_25, s_113_26, s_113_27, s_113_28, s_113_29, s_113_30, s_113_31, s_113_32, s_113_33, s_113_34, s_113_35, s_113_36, s_113_37, s_113_38, s_113_39, s_113_39i, s_113_42, s_113_43, s_113_44, s_113_45, s_113_46, s_113_47, s_113_48, s_113_49, s_113_50, s_113_51, s_113_52, s_113_53, s_113_54, yO_0, yO_7, g1, ifbn, if_true, if_false, k1, k2, xbump_z hz, xbump_emb, Gk_v, Gk_n, xcat_nil, xcat_i, xcat_r, xcat_l, xcat_d, Nat.zero_le, Nat.reduceAdd, Nat.reduceLeDiff, true_and, and_true, ykl_i, ykl_r, ykl_n, ykl_l]
      · have hp : yper x v = false := by
          unfold ykok at hk
          rw [decide_eq_true (⟨Int32.not_lt.mp k1, Int32.not_lt.mp k2⟩ : (0 : Int32) ≤ x ∧ x ≤ 3), Bool.true_and] at hk
          exact hk
        simp only [s_113_0, s_113_1, s_113_2, s_113_3, s_113_4, s_113_5, s_113_6, s_113_6i, s_113_9, s_113_10, s_113_11, s_113_12, s_113_13, s_113_14, s_113_15, s_113_16, s_113_17, s_113_18, s_113_19, s_113_19i, s_113_22, s_113_23, s_113_24, s_113_25, s_113_26, s_113_27, s_113_28, s_113_29, s_113_30, s_113_31, s_113_32, s_113_33, s_113_34, s_113_35, s_113_36, s_113_37, s_113_38, s_113_39, s_113_39i, s_113_42, s_113_43, s_113_44, s_113_45, s_113_46, s_113_47, s_113_48, s_113_49, s_113_50, s_113_51, s_113_52, s_113_53, s_113_54, yO_0, yO_7, g1, ifbn, Bool.false_eq_true, if_true, if_false, k1, k2, m_120, hp, xbump_z hz, xbump_emb, Gk_v, Gk_n, xcat_nil, xcat_i, xcat_r, xcat_l, xcat_d, Nat.zero_le, Nat.reduceAdd, Nat.reduceLeDiff, true_and, and_true, ykl_i, ykl_r, ykl_n, ykl_l]
theorem q_113s (C : yCI t D k E s0 s1 n B eo en) {p : Nat} (hp : p < D.n) (hc : yisp D (yI p) = true) {x v : Int32} (hz : t.z.1.1 < 900000) (hk : ykok x v = true) (hf : yfull D p x = true) : Ra (d + 2) 113 [.ref 0, .int (yI p), .int x, .int v] (yemb t) (.inr 2) (yemb t.bp) := by
  intro Q
  have hn40 := C.1.ok.n40
  have hb10 := C.1.ok.bad
  have g1 := fun Q' => m_32' (d := d + 1) C.1 (j := yI p) Q'
  have g2 := fun Q' => m_37 (d := d + 1) C.1 Q'
  have hw : yodd D.kd D.n < 18446744073709551616 := Nat.lt_of_lt_of_le (yodd_lt _) (Nat.le_trans (Nat.pow_le_pow_right (by decide) hn40) (by decide))
  have g3 := fun Q' => m_216 (d := d + 1) (σ := yemb t) (Q := Q') hw
  rw [ybad_pc C.1.ok] at g3
  have c3 : yix (yI p) 40 := yix_I (by omega) (by omega)
  have c4 : (yI p).toNatClampNeg = p := yI_clamp (by omega)
  have c5 : t.A 10 p = D.kd p := C.1.kd p (by omega)
  unfold ykok at hk
  rw [Bool.and_eq_true] at hk
  have hk1 := of_decide_eq_true hk.1
  have k1 : ¬ x < 0 := Int32.not_lt.mpr hk1.1
  have k2 : ¬ 3 < x := Int32.not_lt.mpr hk1.2
  have hk2 := hk.2
  unfold yfull at hf
  rw [Bool.and_eq_true, Bool.and_eq_true] at hf
  have h0 := of_decide_eq_true hf.1
  have hx := of_decide_eq_true hf.2.1
  have h10 := of_decide_eq_true hf.2.2
  have c6 : ¬ yI (ybad D.kd D.n) < 10 := fun h => absurd ((yI_lt (m := 10) (by omega) (by decide)).mp h) (by omega)
  show G (d + 2) 113 0 [some (.ref 0), some (.int (yI p)), some (.int x), some (.int v), none] [] (yemb t) Q ↔ _
  simp only [s_113_0, s_113_1, s_113_2, s_113_3, s_113_4, s_113_5, s_113_6, s_113_6i, s_113_9, s_113_10, s_113_11, s_113_12, s_113_13, s_113_14, s_113_15, s_113_16, s_113_17, s_113_18, s_113_19, s_113_19i, s_113_22, s_113_23, s_113_24, s_113_25, s_113_26, s_113_27, s_113_28, s_113_29, s_113_30, s_113_31, s_113_32, s_113_33, s_113_34, s_113_35, s_113_36, s_113_37, s_113_38, s_113_39, s_113_39i, s_113_42, s_113_43, s_113_44, s_113_45, s_113_46, s_113_47, s_113_48, s_113_49, s_113_50, s_113_51, s_113_52, s_113_53, s_113_54, yO_0, yO_7, yO_38, yA_10, yn_10, g1, g2, g3, hc, ifbn, if_true, if_false, k1, k2, m_120, hk2, c3, c4, c5, c6, h0, hx, ne_eq, not_true_eq_false, xbump_z hz, xbump_emb, Gk_v, Gk_n, xcat_nil, xcat_i, xcat_r, xcat_l, xcat_d, Nat.zero_le, Nat.reduceAdd, Nat.reduceLeDiff, true_and, and_true, ykl_i, ykl_r, ykl_n, ykl_l]
theorem yper_in {x v : Int32} : (decide (x = 3) && !decide ((2 : Int32) ≤ v ∧ v ≤ 9) || (!decide (x = 3) && !decide (v = 0))) = !yper x v := by
  unfold yper
  by_cases h : x = 3
  · simp [h]
  · simp [h]
theorem p_209 (M : yMI t D k E s0 s1 n B eo en) {p : Nat} (hp : p < D.n) (hc : yisp D (yI p) = true) {x v : Int32} (hk : ykok x v = true) (hf : yfull D p x = false) : ∃ u, Ra (d + 3) 209 [.ref 160, .int (yI p), .int x, .int v] (yemb t) (.inl (some (.int (D.kd p)))) (yemb u) ∧ (yMI u (ykp D p x v) (min 8 (k + 1)) (ypush D E) s0 s1 n B eo en ∧ (u.A 160 0 = 0 ∧ yFm t u)) := by
  have hn40 := M.1.ok.n40
  have hb10 := M.1.ok.bad
  have M0 := yMI_s1 (j := 0) (v := 0) M (by decide)
  obtain ⟨u1, h1, M1, hj, F1⟩ := p_203 (d := d + 1) M0
  rw [ys1_same] at hj
  have h40 : p < 40 := by omega
  have M2 : yM (((u1.s1 162 (8 + 8 * p + 0) x).s1 162 (8 + 8 * p + 2) v).A 162) (ykp D p x v) := ⟨ykp_ok M.1.ok hp hk hf, by rw [ys1_upd, ys1_upd]; exact yN_kp M1.1.v h40⟩
  have g1 := fun Q' => m_185' (d := d + 1) M0.1 (p := yI p) ys1_same Q'
  rw [hc] at g1
  have g2 : ∀ Q', Cl (d + 2) 162 [.ref 160, .int (yI p), .int 0] (yemb (t.s1 160 0 0)) Q' ↔ Q' (.inl (some (.int (D.kd p)))) (yemb (t.s1 160 0 0)) := fun Q' => mo_kd M0.1 h40
  have g3 := fun Q' => m_144 (d := d + 1) M0.1 Q'
  have g4 : ∀ Q', Cl (d + 2) 162 [.ref 160, .int (yI p), .int 0] (yemb u1) Q' ↔ Q' (.inl (some (.int (D.kd p)))) (yemb u1) := fun Q' => mo_kd M1.1 h40
  have g5 : ∀ Q', Cl (d + 2) 163 [.ref 160, .int (yI p), .int 0, .int x] (yemb u1) Q' ↔ Q' (.inl none) (yemb (u1.s1 162 (8 + 8 * p + 0) x)) := fun Q' => m_163 (w := 0) h40 (by omega)
  have g6 : ∀ Q', Cl (d + 2) 163 [.ref 160, .int (yI p), .int 2, .int v] (yemb (u1.s1 162 (8 + 8 * p + 0) x)) Q' ↔ Q' (.inl none) (yemb ((u1.s1 162 (8 + 8 * p + 0) x).s1 162 (8 + 8 * p + 2) v)) := fun Q' => m_163 (w := 2) h40 (by omega)
  have hk' := hk
  unfold ykok at hk
  rw [Bool.and_eq_true] at hk
  have c1 := hk.1
  have c2 := hk.2
  refine ⟨_, fun Q => ?_, yMI_D M1 ((yFr_s1 (P := fun a => a = 162) rfl).trans (yFr_s1 (P := fun a => a = 162) rfl) (P'' := fun a => a = 162) (fun a h => by omega)) (fun a h => by omega) M2, by rw [ys1_ne (by decide), ys1_ne (by decide)]; exact hj, yFm_trans (yFm_trans yFm_s1 F1) ((yFr_s1 (P := fun a => a = 162) rfl).trans (yFr_s1 (P := fun a => a = 162) rfl) (fun a h => by omega))⟩
  show G (d + 3) 209 0 [some (.ref 160), some (.int (yI p)), some (.int x), some (.int v), none] [] (yemb t) Q ↔ _
  have tail : ∀ (ls4 : Option Value), G (d + 3) 209 54 [some (.ref 160), some (.int (yI p)), some (.int x), some (.int v), ls4] [] (yemb (t.s1 160 0 0)) Q ↔ Q (.inl (some (.int (D.kd p)))) (yemb ((u1.s1 162 (8 + 8 * p + 0) x).s1 162 (8 + 8 * p + 2) v)) := by
    intro ls4
    simp only [s_209_0, s_209_1, s_209_2, s_209_3, s_209_4, s_209_5, s_209_6, s_209_7, s_209_8, s_209_9, s_209_10, s_209_11, s_209_12, s_209_13, s_209_14, s_209_15, s_209_16, s_209_17, s_209_18, s_209_19, s_209_20, s_209_21, s_209_22, s_209_23, s_209_24, s_209_25, s_209_26, s_209_27, s_209_28, s_209_29, s_209_30, s_209_31, s_209_32, s_209_33, s_209_34, s_209_35, s_209_36, s_209_37, s_209_38, s_209_39, s_209_40, s_209_41, s_209_42, s_209_43, s_209_44, s_209_45, s_209_46, s_209_47, s_209_48, s_209_49, s_209_50, s_209_51, s_209_52, s_209_53, s_209_54, s_209_55, s_209_56, s_209_57, s_209_58, s_209_59, s_209_60, s_209_61, s_209_62, s_209_63, s_209_64, s_209_65, s_209_66, s_209_67, s_209_68, s_209_69, s_209_70, s_209_71, s_209_72, yO_160, h1, g4, g5, g6, Gk_v, Gk_n, xcat_nil, xcat_i, xcat_r, xcat_l, xcat_d, Nat.zero_le, Nat.reduceAdd, Nat.reduceLeDiff, true_and, and_true, ykl_i, ykl_r, ykl_n, ykl_l]
  have mid : ∀ (ls4 : Option Value), G (d + 3) 209 26 [some (.ref 160), some (.int (yI p)), some (.int x), some (.int v), ls4] [.ref 160] (yemb (t.s1 160 0 0)) Q ↔ Q (.inl (some (.int (D.kd p)))) (yemb ((u1.s1 162 (8 + 8 * p + 0) x).s1 162 (8 + 8 * p + 2) v)) := by
    intro ls4
    have tl := tail ls4
    by_cases h0 : D.kd p = 0
    · by_cases hx : x = 0
      · simp only [s_209_0, s_209_1, s_209_2, s_209_3, s_209_4, s_209_5, s_209_6, s_209_7, s_209_8, s_209_9, s_209_10, s_209_11, s_209_12, s_209_13, s_209_14, s_209_15, s_209_16, s_209_17, s_209_18, s_209_19, s_209_20, s_209_21, s_209_22, s_209_23, s_209_24, s_209_25, s_209_26, s_209_27, s_209_28, s_209_29, s_209_30, s_209_31, s_209_32, s_209_33, s_209_34, s_209_35, s_209_36, s_209_37, s_209_38, s_209_39, s_209_40, s_209_41, s_209_42, s_209_43, s_209_44, s_209_45, s_209_46, s_209_47, s_209_48, s_209_49, s_209_50, s_209_51, s_209_52, s_209_53, s_209_55, s_209_56, s_209_57, s_209_58, s_209_59, s_209_60, s_209_61, s_209_62, s_209_63, s_209_64, s_209_65, s_209_66, s_209_67, s_209_68, s_209_69, s_209_70, s_209_71, s_209_72, yO_160, m_124f yne20 ys1_same, m_124f yne30 ys1_same, g2, h0, hx, ne_eq, not_true_eq_false, if_true, if_false, Gk_v, Gk_n, xcat_nil, xcat_i, xcat_r, xcat_l, xcat_d, Nat.zero_le, Nat.reduceAdd, Nat.reduceLeDiff, true_and, and_true, ykl_i, ykl_r, ykl_n, ykl_l]
        rw [hx, h0] at tl
        exact tl
      · have hfl : ¬ 10 ≤ ybad D.kd D.n := by
          unfold yfull at hf
          rw [decide_eq_true h0, decide_eq_true hx] at hf
          simp only [Bool.true_and] at hf
          exact of_decide_eq_false hf
        have c6 : ¬ yI (ybad D.kd D.n) = 10 := fun h => absurd ((yI_inj (m := 10) (by omega) (by decide)).mp h) (by omega)
        simp only [s_209_0, s_209_1, s_209_2, s_209_3, s_209_4, s_209_5, s_209_6, s_209_7, s_209_8, s_209_9, s_209_10, s_209_11, s_209_12, s_209_13, s_209_14, s_209_15, s_209_16, s_209_17, s_209_18, s_209_19, s_209_20, s_209_21, s_209_22, s_209_23, s_209_24, s_209_25, s_209_26, s_209_27, s_209_28, s_209_29, s_209_30, s_209_31, s_209_32, s_209_33, s_209_34, s_209_35, s_209_36, s_209_37, s_209_38, s_209_39, s_209_40, s_209_41, s_209_42, s_209_43, s_209_44, s_209_45, s_209_46, s_209_47, s_209_48, s_209_49, s_209_50, s_209_51, s_209_52, s_209_53, s_209_55, s_209_56, s_209_57, s_209_58, s_209_59, s_209_60, s_209_61, s_209_62, s_209_63, s_209_64, s_209_65, s_209_66, s_209_67, s_209_68, s_209_69, s_209_70, s_209_71, s_209_72, yO_160, m_124f yne20 ys1_same, m_124f yne30 ys1_same, g2, g3, h0, hx, c6, ne_eq, not_true_eq_false, not_false_eq_true, if_true, if_false, Gk_v, Gk_n, xcat_nil, xcat_i, xcat_r, xcat_l, xcat_d, Nat.zero_le, Nat.reduceAdd, Nat.reduceLeDiff, true_and, and_true, ykl_i, ykl_r, ykl_n, ykl_l]
        rw [h0] at tl
        exact tl
    · simp only [s_209_0, s_209_1, s_209_2, s_209_3, s_209_4, s_209_5, s_209_6, s_209_7, s_209_8, s_209_9, s_209_10, s_209_11, s_209_12, s_209_13, s_209_14, s_209_15, s_209_16, s_209_17, s_209_18, s_209_19, s_209_20, s_209_21, s_209_22, s_209_23, s_209_24, s_209_25, s_209_26, s_209_27, s_209_28, s_209_29, s_209_30, s_209_31, s_209_32, s_209_33, s_209_34, s_209_35, s_209_36, s_209_37, s_209_38, s_209_39, s_209_40, s_209_41, s_209_42, s_209_43, s_209_44, s_209_45, s_209_46, s_209_47, s_209_48, s_209_49, s_209_50, s_209_51, s_209_52, s_209_53, s_209_55, s_209_56, s_209_57, s_209_58, s_209_59, s_209_60, s_209_61, s_209_62, s_209_63, s_209_64, s_209_65, s_209_66, s_209_67, s_209_68, s_209_69, s_209_70, s_209_71, s_209_72, yO_160, m_124f yne20 ys1_same, m_124f yne30 ys1_same, g2, h0, ne_eq, not_false_eq_true, if_true, if_false, Gk_v, Gk_n, xcat_nil, xcat_i, xcat_r, xcat_l, xcat_d, Nat.zero_le, Nat.reduceAdd, Nat.reduceLeDiff, true_and, and_true, ykl_i, ykl_r, ykl_n, ykl_l]
      exact tl
  have md := mid none
  unfold yper at c2
  by_cases h3 : x = 3
  · rw [if_pos h3] at c2
    simp only [s_209_0, s_209_1, s_209_2, s_209_3, s_209_4, s_209_5, s_209_6, s_209_7, s_209_8, s_209_9, s_209_10, s_209_11, s_209_12, s_209_13, s_209_14, s_209_15, s_209_16, s_209_17, s_209_18, s_209_19, s_209_20, s_209_21, s_209_22, s_209_23, s_209_24, s_209_25, s_209_27, s_209_28, s_209_29, s_209_30, s_209_31, s_209_32, s_209_33, s_209_34, s_209_35, s_209_36, s_209_37, s_209_38, s_209_39, s_209_40, s_209_41, s_209_42, s_209_43, s_209_44, s_209_45, s_209_46, s_209_47, s_209_48, s_209_49, s_209_50, s_209_51, s_209_52, s_209_53, s_209_54, s_209_55, s_209_56, s_209_57, s_209_58, s_209_59, s_209_60, s_209_61, s_209_62, s_209_63, s_209_64, s_209_65, s_209_66, s_209_67, s_209_68, s_209_69, s_209_70, s_209_71, s_209_72, yO_160, g1, m_125, c1, c2, h3, ifb, ifbn, Bool.not_true, Bool.false_eq_true, ne_eq, not_true_eq_false, if_true, if_false, Gk_v, Gk_n, xcat_nil, xcat_i, xcat_r, xcat_l, xcat_d, Nat.zero_le, Nat.reduceAdd, Nat.reduceLeDiff, true_and, and_true, ykl_i, ykl_r, ykl_n, ykl_l]
    rw [h3] at c1 md
    simp only [m_125, c1, ifb, if_true, s_209_13, s_209_14, s_209_15, s_209_16, s_209_17, s_209_18, s_209_19, s_209_20, s_209_21, c2, ne_eq, not_true_eq_false, if_false, Gk_v, Gk_n, xcat_nil, xcat_i, xcat_r, xcat_l, xcat_d, Nat.zero_le, Nat.reduceAdd, Nat.reduceLeDiff, true_and, and_true, ykl_i, ykl_r, ykl_n, ykl_l]
    exact md
  · rw [if_neg h3] at c2
    have c3 := of_decide_eq_true c2
    simp only [s_209_0, s_209_1, s_209_2, s_209_3, s_209_4, s_209_5, s_209_6, s_209_7, s_209_8, s_209_9, s_209_10, s_209_11, s_209_12, s_209_13, s_209_14, s_209_15, s_209_16, s_209_17, s_209_18, s_209_19, s_209_20, s_209_21, s_209_22, s_209_23, s_209_24, s_209_25, s_209_27, s_209_28, s_209_29, s_209_30, s_209_31, s_209_32, s_209_33, s_209_34, s_209_35, s_209_36, s_209_37, s_209_38, s_209_39, s_209_40, s_209_41, s_209_42, s_209_43, s_209_44, s_209_45, s_209_46, s_209_47, s_209_48, s_209_49, s_209_50, s_209_51, s_209_52, s_209_53, s_209_54, s_209_55, s_209_56, s_209_57, s_209_58, s_209_59, s_209_60, s_209_61, s_209_62, s_209_63, s_209_64, s_209_65, s_209_66, s_209_67, s_209_68, s_209_69, s_209_70, s_209_71, s_209_72, yO_160, g1, m_125, c1, c3, h3, ifb, ifbn, Bool.not_true, Bool.false_eq_true, ne_eq, not_false_eq_true, if_true, if_false, Gk_v, Gk_n, xcat_nil, xcat_i, xcat_r, xcat_l, xcat_d, Nat.zero_le, Nat.reduceAdd, Nat.reduceLeDiff, true_and, and_true, ykl_i, ykl_r, ykl_n, ykl_l]
    rw [c3] at md
    exact md
theorem p_209t (M : yMI t D k E s0 s1 n B eo en) {p x v : Int32} : (yisp D p = false → ∃ u, Ra (d + 3) 209 [.ref 160, .int p, .int x, .int v] (yemb t) (.inl (some (.int 0))) (yemb u) ∧ (yMI u D k E s0 s1 n B eo en ∧ (u.A 160 0 = 1 ∧ yFm t u))) ∧ (yisp D p = true → ykok x v = false → ∃ u, Ra (d + 3) 209 [.ref 160, .int p, .int x, .int v] (yemb t) (.inl (some (.int 0))) (yemb u) ∧ (yMI u D k E s0 s1 n B eo en ∧ (u.A 160 0 = 2 ∧ yFm t u))) := by
  have M0 := yMI_s1 (j := 0) (v := 0) M (by decide)
  have g1 := fun Q' => m_185' (d := d + 1) M0.1 (p := p) ys1_same Q'
  constructor
  · intro hc
    rw [hc] at g1
    refine ⟨(t.s1 160 0 0).s1 160 0 1, fun Q => ?_, yMI_s1 M0 (by decide), ys1_same, yFm_trans yFm_s1 yFm_s1⟩
    show G (d + 3) 209 0 [some (.ref 160), some (.int p), some (.int x), some (.int v), none] [] (yemb t) Q ↔ _
    simp only [s_209_0, s_209_1, s_209_2, s_209_3, s_209_4, s_209_5, s_209_6, s_209_7, s_209_8, s_209_9, s_209_10, s_209_11, s_209_12, s_209_13, s_209_14, s_209_15, s_209_16, s_209_17, s_209_18, s_209_19, s_209_20, s_209_21, s_209_22, s_209_23, s_209_24, s_209_25, s_209_26, s_209_27, s_209_28, s_209_29, s_209_30, s_209_31, s_209_32, s_209_33, s_209_34, s_209_35, s_209_36, s_209_37, s_209_38, s_209_39, s_209_40, s_209_41, s_209_42, s_209_43, s_209_44, s_209_45, s_209_46, s_209_47, s_209_48, s_209_49, s_209_50, s_209_51, s_209_52, s_209_53, s_209_54, s_209_55, s_209_56, s_209_57, s_209_58, s_209_59, s_209_60, s_209_61, s_209_62, s_209_63, s_209_64, s_209_65, s_209_66, s_209_67, s_209_68, s_209_69, s_209_70, s_209_71, s_209_72, yO_160, g1, ifb, ifbn, Bool.not_false, if_true, Gk_v, Gk_n, xcat_nil, xcat_i, xcat_r, xcat_l, xcat_d, Nat.zero_le, Nat.reduceAdd, Nat.reduceLeDiff, true_and, and_true, ykl_i, ykl_r, ykl_n, ykl_l]
  · intro hc hk
    rw [hc] at g1
    refine ⟨(t.s1 160 0 0).s1 160 0 2, fun Q => ?_, yMI_s1 M0 (by decide), ys1_same, yFm_trans yFm_s1 yFm_s1⟩
    show G (d + 3) 209 0 [some (.ref 160), some (.int p), some (.int x), some (.int v), none] [] (yemb t) Q ↔ _
    cases c1 : decide ((0 : Int32) ≤ x ∧ x ≤ 3)
    · simp only [s_209_0, s_209_1, s_209_2, s_209_3, s_209_4, s_209_5, s_209_6, s_209_7, s_209_8, s_209_9, s_209_10, s_209_11, s_209_12, s_209_13, s_209_14, s_209_15, s_209_16, s_209_17, s_209_18, s_209_19, s_209_20, s_209_21, s_209_22, s_209_23, s_209_24, s_209_25, s_209_26, s_209_27, s_209_28, s_209_29, s_209_30, s_209_31, s_209_32, s_209_33, s_209_34, s_209_35, s_209_36, s_209_37, s_209_38, s_209_39, s_209_40, s_209_41, s_209_42, s_209_43, s_209_44, s_209_45, s_209_46, s_209_47, s_209_48, s_209_49, s_209_50, s_209_51, s_209_52, s_209_53, s_209_54, s_209_55, s_209_56, s_209_57, s_209_58, s_209_59, s_209_60, s_209_61, s_209_62, s_209_63, s_209_64, s_209_65, s_209_66, s_209_67, s_209_68, s_209_69, s_209_70, s_209_71, s_209_72, yO_160, g1, m_125, c1, ifb, ifbn, Bool.not_true, Bool.false_eq_true, if_true, if_false, m_124t yne20 ys1_same, yne10, Gk_v, Gk_n, xcat_nil, xcat_i, xcat_r, xcat_l, xcat_d, Nat.zero_le, Nat.reduceAdd, Nat.reduceLeDiff, true_and, and_true, ykl_i, ykl_r, ykl_n, ykl_l]
    · have c2 : yper x v = false := by
        unfold ykok at hk
        rw [c1, Bool.true_and] at hk
        exact hk
      unfold yper at c2
      by_cases h3 : x = 3
      · rw [if_pos h3] at c2
        subst h3
        simp only [s_209_0, s_209_1, s_209_2, s_209_3, s_209_4, s_209_5, s_209_6, s_209_7, s_209_8, s_209_9, s_209_10, s_209_11, s_209_12, s_209_13, s_209_14, s_209_15, s_209_16, s_209_17, s_209_18, s_209_19, s_209_20, s_209_21, s_209_22, s_209_23, s_209_24, s_209_25, s_209_26, s_209_27, s_209_28, s_209_29, s_209_30, s_209_31, s_209_32, s_209_33, s_209_34, s_209_35, s_209_36, s_209_37, s_209_38, s_209_39, s_209_40, s_209_41, s_209_42, s_209_43, s_209_44, s_209_45, s_209_46, s_209_47, s_209_48, s_209_49, s_209_50, s_209_51, s_209_52, s_209_53, s_209_54, s_209_55, s_209_56, s_209_57, s_209_58, s_209_59, s_209_60, s_209_61, s_209_62, s_209_63, s_209_64, s_209_65, s_209_66, s_209_67, s_209_68, s_209_69, s_209_70, s_209_71, s_209_72, yO_160, g1, m_125, c1, c2, ifb, ifbn, Bool.not_true, Bool.false_eq_true, ne_eq, not_true_eq_false, if_true, if_false, m_124t yne20 ys1_same, yne10, Gk_v, Gk_n, xcat_nil, xcat_i, xcat_r, xcat_l, xcat_d, Nat.zero_le, Nat.reduceAdd, Nat.reduceLeDiff, true_and, and_true, ykl_i, ykl_r, ykl_n, ykl_l]
      · rw [if_neg h3] at c2
        have c3 := of_decide_eq_false c2
        simp only [s_209_0, s_209_1, s_209_2, s_209_3, s_209_4, s_209_5, s_209_6, s_209_7, s_209_8, s_209_9, s_209_10, s_209_11, s_209_12, s_209_13, s_209_14, s_209_15, s_209_16, s_209_17, s_209_18, s_209_19, s_209_20, s_209_21, s_209_22, s_209_23, s_209_24, s_209_25, s_209_26, s_209_27, s_209_28, s_209_29, s_209_30, s_209_31, s_209_32, s_209_33, s_209_34, s_209_35, s_209_36, s_209_37, s_209_38, s_209_39, s_209_40, s_209_41, s_209_42, s_209_43, s_209_44, s_209_45, s_209_46, s_209_47, s_209_48, s_209_49, s_209_50, s_209_51, s_209_52, s_209_53, s_209_54, s_209_55, s_209_56, s_209_57, s_209_58, s_209_59, s_209_60, s_209_61, s_209_62, s_209_63, s_209_64, s_209_65, s_209_66, s_209_67, s_209_68, s_209_69, s_209_70, s_209_71, s_209_72, yO_160, g1, m_125, c1, c3, h3, ifb, ifbn, Bool.not_true, Bool.false_eq_true, ne_eq, not_false_eq_true, if_true, if_false, m_124t yne20 ys1_same, yne10, Gk_v, Gk_n, xcat_nil, xcat_i, xcat_r, xcat_l, xcat_d, Nat.zero_le, Nat.reduceAdd, Nat.reduceLeDiff, true_and, and_true, ykl_i, ykl_r, ykl_n, ykl_l]
theorem p_209s (M : yMI t D k E s0 s1 n B eo en) {p : Nat} (hp : p < D.n) (hc : yisp D (yI p) = true) {x v : Int32} (hk : ykok x v = true) (hf : yfull D p x = true) : ∃ u, Ra (d + 3) 209 [.ref 160, .int (yI p), .int x, .int v] (yemb t) (.inl (some (.int 0))) (yemb u) ∧ (yMI u D k E s0 s1 n B eo en ∧ (u.A 160 0 = 3 ∧ yFm t u)) := by
  have hn40 := M.1.ok.n40
  have hb10 := M.1.ok.bad
  have M0 := yMI_s1 (j := 0) (v := 0) M (by decide)
  have h40 : p < 40 := by omega
  have g1 := fun Q' => m_185' (d := d + 1) M0.1 (p := yI p) ys1_same Q'
  rw [hc] at g1
  have g2 : ∀ Q', Cl (d + 2) 162 [.ref 160, .int (yI p), .int 0] (yemb (t.s1 160 0 0)) Q' ↔ Q' (.inl (some (.int (D.kd p)))) (yemb (t.s1 160 0 0)) := fun Q' => mo_kd M0.1 h40
  have g3 := fun Q' => m_144 (d := d + 1) M0.1 Q'
  unfold ykok at hk
  rw [Bool.and_eq_true] at hk
  have c1 := hk.1
  have c2 := hk.2
  unfold yfull at hf
  rw [Bool.and_eq_true, Bool.and_eq_true] at hf
  have h0 := of_decide_eq_true hf.1
  have hx := of_decide_eq_true hf.2.1
  have h10 := of_decide_eq_true hf.2.2
  have c6 : yI (ybad D.kd D.n) = 10 := by
    rw [show ybad D.kd D.n = 10 by omega]
    rfl
  refine ⟨(t.s1 160 0 0).s1 160 0 3, fun Q => ?_, yMI_s1 M0 (by decide), ys1_same, yFm_trans yFm_s1 yFm_s1⟩
  show G (d + 3) 209 0 [some (.ref 160), some (.int (yI p)), some (.int x), some (.int v), none] [] (yemb t) Q ↔ _
  unfold yper at c2
  by_cases h3 : x = 3
  · rw [if_pos h3] at c2
    subst h3
    simp only [s_209_0, s_209_1, s_209_2, s_209_3, s_209_4, s_209_5, s_209_6, s_209_7, s_209_8, s_209_9, s_209_10, s_209_11, s_209_12, s_209_13, s_209_14, s_209_15, s_209_16, s_209_17, s_209_18, s_209_19, s_209_20, s_209_21, s_209_22, s_209_23, s_209_24, s_209_25, s_209_26, s_209_27, s_209_28, s_209_29, s_209_30, s_209_31, s_209_32, s_209_33, s_209_34, s_209_35, s_209_36, s_209_37, s_209_38, s_209_39, s_209_40, s_209_41, s_209_42, s_209_43, s_209_44, s_209_45, s_209_46, s_209_47, s_209_48, s_209_49, s_209_50, s_209_51, s_209_52, s_209_53, s_209_54, s_209_55, s_209_56, s_209_57, s_209_58, s_209_59, s_209_60, s_209_61, s_209_62, s_209_63, s_209_64, s_209_65, s_209_66, s_209_67, s_209_68, s_209_69, s_209_70, s_209_71, s_209_72, yO_160, g1, g2, g3, m_125, c1, c2, c6, h0, ifb, ifbn, Bool.not_true, Bool.false_eq_true, ne_eq, not_true_eq_false, not_false_eq_true, if_true, if_false, yne30, m_124f yne20 ys1_same, m_124t yne30 ys1_same, yne10, Gk_v, Gk_n, xcat_nil, xcat_i, xcat_r, xcat_l, xcat_d, Nat.zero_le, Nat.reduceAdd, Nat.reduceLeDiff, true_and, and_true, ykl_i, ykl_r, ykl_n, ykl_l]
  · rw [if_neg h3] at c2
    have c3 := of_decide_eq_true c2
    simp only [s_209_0, s_209_1, s_209_2, s_209_3, s_209_4, s_209_5, s_209_6, s_209_7, s_209_8, s_209_9, s_209_10, s_209_11, s_209_12, s_209_13, s_209_14, s_209_15, s_209_16, s_209_17, s_209_18, s_209_19, s_209_20, s_209_21, s_209_22, s_209_23, s_209_24, s_209_25, s_209_26, s_209_27, s_209_28, s_209_29, s_209_30, s_209_31, s_209_32, s_209_33, s_209_34, s_209_35, s_209_36, s_209_37, s_209_38, s_209_39, s_209_40, s_209_41, s_209_42, s_209_43, s_209_44, s_209_45, s_209_46, s_209_47, s_209_48, s_209_49, s_209_50, s_209_51, s_209_52, s_209_53, s_209_54, s_209_55, s_209_56, s_209_57, s_209_58, s_209_59, s_209_60, s_209_61, s_209_62, s_209_63, s_209_64, s_209_65, s_209_66, s_209_67, s_209_68, s_209_69, s_209_70, s_209_71, s_209_72, yO_160, g1, g2, g3, m_125, c1, c3, c6, h0, hx, h3, ifb, ifbn, Bool.not_true, Bool.false_eq_true, ne_eq, not_true_eq_false, not_false_eq_true, if_true, if_false, m_124f yne20 ys1_same, m_124t yne30 ys1_same, yne10, Gk_v, Gk_n, xcat_nil, xcat_i, xcat_r, xcat_l, xcat_d, Nat.zero_le, Nat.reduceAdd, Nat.reduceLeDiff, true_and, and_true, ykl_i, ykl_r, ykl_n, ykl_l]
theorem k_240 (I : yInv t) (hz : t.z.1.1 < 900000) (p x v : Int32) : ∃ u1 u c w, Ra (d + 3) 240 [.ref 0, .int p, .int x, .int v, .ref 183] (yemb t) (.inl (some (.int c))) (yemb u1) ∧ (Ra (d + 3) 209 [.ref 160, .int p, .int x, .int v] (yemb u1) (.inl (some (.int w))) (yemb u) ∧ yOK t u c w.toInt64) := by
  obtain ⟨⟨D, k, E, s0, s1, n, B, eo, en, C, M⟩, Z⟩ := I
  cases hc : yisp D p
  · obtain ⟨u, hu, M1, h0, Fm⟩ := (p_209t (d := d) (p := p) (x := x) (v := v) (yMI_c M yFc_bp)).1 hc
    exact ⟨_, u, 1, 0, h_240_1 ((q_113t C hz).1 hc), hu, yOK_of Z yFc_bp (yCI_bp C) Fm M1 h0 (fun h => absurd h yne10)⟩
  · cases hk : ykok x v
    · obtain ⟨u, hu, M1, h0, Fm⟩ := (p_209t (d := d) (p := p) (x := x) (v := v) (yMI_c M yFc_bp)).2 hc hk
      exact ⟨_, u, 2, 0, h_240_0 ((q_113t C hz).2 hc hk), hu, yOK_of Z yFc_bp (yCI_bp C) Fm M1 h0 (fun h => absurd h yne20)⟩
    · obtain ⟨q, hq, rfl⟩ := yisp_of C.1.ok.n40 hc
      cases hf : yfull D q x
      · obtain ⟨u1, h1, C1, F1⟩ := q_113 (d := d) C hq hc hk hf
        have Fc := yFc_out (j := 0) (v := (D.kd q).toInt64) (yFc_fr F1 (fun a h => Or.inl h))
        obtain ⟨u, hu, M1, h0, Fm⟩ := p_209 (d := d) (yMI_c M Fc) hq hc hk hf
        exact ⟨_, u, 0, _, h_240 h1, hu, yOK_of Z Fc (yCI_out C1) Fm M1 h0 (fun _ => yoL)⟩
      · obtain ⟨u, hu, M1, h0, Fm⟩ := p_209s (d := d) (yMI_c M yFc_bp) hq hc hk hf
        exact ⟨_, u, 3, 0, h_240_2 (q_113s C hq hc hz hk hf), hu, yOK_of Z yFc_bp (yCI_bp C) Fm M1 h0 (fun h => absurd h yne30)⟩
/- undo -/
theorem k_117 (I : yInv t) : ∃ u1 u v, Ra (d + 2) 117 [.ref 0] (yemb t) (.inl (some (.int v))) (yemb u1) ∧ (Ra (d + 1) 214 [.ref 160] (yemb u1) (.inl (some (.int v))) (yemb u) ∧ yOK t u 0 (u1.L 183 0)) := by
  obtain ⟨⟨D, k, E, s0, s1, n, B, eo, en, C, M⟩, Z⟩ := I
  obtain ⟨w, H⟩ := C.2.1
  obtain ⟨hk8, H2, HE⟩ := M.2.1
  obtain ⟨g0, g1⟩ := m_7 (d := d) C.1 H
  by_cases hk : k = 0
  · have M0 := yMI_s1 (j := 0) (v := 0) M (by decide)
    have e2 : (t.s1 160 0 0).A 160 16 = 0 := by
      rw [M0.2.1.2.1, hk]
      rfl
    have g0' := g0 hk
    refine ⟨t, t.s1 160 0 0, -1, fun Q => ?_, fun Q => ?_, yOK_of Z (yFc_fr yFr.rfl' (P := fun _ => False) (fun a h => h.elim)) C yFm_s1 M0 ys1_same (fun _ => rfl)⟩
    · show G (d + 2) 117 0 [some (.ref 0)] [] (yemb t) Q ↔ _
      simp only [s_117_0, s_117_1, s_117_2, s_117_3, s_117_4, s_117_5, yO_0, yO_38, g0', Gk_v, Gk_n, xcat_nil, xcat_i, xcat_r, xcat_l, xcat_d, Nat.zero_le, Nat.reduceAdd, Nat.reduceLeDiff, true_and, and_true, ykl_i, ykl_r, ykl_n, ykl_l]
    · show G (d + 1) 214 0 [some (.ref 160)] [] (yemb t) Q ↔ _
      simp only [s_214_0, s_214_1, s_214_2, s_214_3, s_214_4, s_214_5, s_214_6, s_214_7, s_214_8, s_214_9, s_214_9i, s_214_10, s_214_11, s_214_12, s_214_13, s_214_14, s_214_15, s_214_16, s_214_17, s_214_19, s_214_20, s_214_21, s_214_22, s_214_23, s_214_24, s_214_25, yO_160, e2, ne_eq, not_true_eq_false, if_false, Gk_v, Gk_n, xcat_nil, xcat_i, xcat_r, xcat_l, xcat_d, Nat.zero_le, Nat.reduceAdd, Nat.reduceLeDiff, true_and, and_true, ykl_i, ykl_r, ykl_n, ykl_l]
  · obtain ⟨u1, h1, ⟨W1, H1⟩, F1⟩ := g1 (by omega)
    have C1 : yCI u1 (E 0) (k - 1) (fun j => E (j + 1)) s0 s1 n B eo en := yCI_upd C F1 (fun a h => by omega) W1 ⟨_, H1⟩
    have Fc : yFc t u1 := yFc_fr F1 (fun a h => by omega)
    have M1 := yMI_c M Fc
    have M0 := yMI_s1 (j := 0) (v := 0) M1 (by decide)
    obtain ⟨q1, q2⟩ := yA_h (r := k - 1) (by omega)
    have e2 : (u1.s1 160 0 0).A 160 16 = yI k := M0.2.1.2.1
    have hne : ¬ yI k = 0 := fun h => absurd ((yI_inj (m := 0) (by omega) (by omega)).mp h) (by omega)
    have e3 : yI k - 1 = yI (k - 1) := yI_sub1 (by omega)
    have Mx : yM (((u1.s1 160 0 0).s1 160 16 (yI (k - 1))).A (167 + (k - 1))) (E 0) := by
      rw [ys1_ne (by omega)]
      have := M0.2.1.2.2 0 (by omega)
      rw [show k - 1 - 0 = k - 1 by omega] at this
      exact this
    obtain ⟨u, hu, Mu, Fu⟩ := m_127d (d := d) q1 yA_162 (by omega) q2 yn_162 Mx
    have e5 : u.A 160 16 = yI (k - 1) := by
      rw [Fu.A (by omega), ys1_upd, yupd_same]
    have e6 : u.A 160 0 = 0 := by
      rw [Fu.A (by omega), ys1_upd, yupd_ne (by decide)]
      exact ys1_same
    have Fm : yFm u1 u := yFm_trans (yFm_trans yFm_s1 yFm_s1) (yFm_fr Fu (fun a h => by omega))
    have M2 : yMI u (E 0) (k - 1) (fun j => E (j + 1)) s0 s1 n B eo en := by
      refine yMI_upd M0 ?_ ?_ ?_ (fun a ha => by rw [Fu.A (by omega), ys1_ne (by omega)]) Mu ⟨by omega, e5, fun j hj => ?_⟩
      · rw [Fu.A (by omega), ys1_upd, yupd_ne (by decide)]
      · rw [Fu.A (by omega), ys1_upd, yupd_ne (by decide)]
      · rw [Fu.A (by omega), ys1_upd, yupd_ne (by decide)]
      · rw [Fu.A (by omega), ys1_ne (by omega), show k - 1 - 1 - j = k - 1 - (j + 1) by omega]
        exact M0.2.1.2.2 (j + 1) (by omega)
    refine ⟨u1, u, yI (k - 1), fun Q => ?_, fun Q => ?_, yOK_of Z Fc C1 Fm M2 e6 (fun _ => rfl)⟩
    · show G (d + 2) 117 0 [some (.ref 0)] [] (yemb t) Q ↔ _
      simp only [s_117_0, s_117_1, s_117_2, s_117_3, s_117_4, s_117_5, yO_0, yO_38, h1, Gk_v, Gk_n, xcat_nil, xcat_i, xcat_r, xcat_l, xcat_d, Nat.zero_le, Nat.reduceAdd, Nat.reduceLeDiff, true_and, and_true, ykl_i, ykl_r, ykl_n, ykl_l]
    · show G (d + 1) 214 0 [some (.ref 160)] [] (yemb u1) Q ↔ _
      simp only [s_214_0, s_214_1, s_214_2, s_214_3, s_214_4, s_214_5, s_214_6, s_214_7, s_214_8, s_214_9, s_214_9i, s_214_10, s_214_11, s_214_12, s_214_13, s_214_14, s_214_15, s_214_16, s_214_17, s_214_19, s_214_20, s_214_21, s_214_22, s_214_23, s_214_24, s_214_25, yO_160, e2, hne, ne_eq, not_false_eq_true, if_true, e3, ys1_same, gs_a166 f_214_18 (show k - 1 < 8 by omega), hu, e5, Gk_v, Gk_n, xcat_nil, xcat_i, xcat_r, xcat_l, xcat_d, Nat.zero_le, Nat.reduceAdd, Nat.reduceLeDiff, true_and, and_true, ykl_i, ykl_r, ykl_n, ykl_l]
end

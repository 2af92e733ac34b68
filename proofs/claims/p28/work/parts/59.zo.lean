/-! ===== the class's setups: bad pixels ===== -/
theorem yodd_upd {k : Nat → Int32} {p n : Nat} {v : Int32} (hp : p < n) (hv : ¬ v = 0) : yodd (upd k p v) n = yodd k n ||| 2 ^ p := by
  apply Nat.eq_of_testBit_eq
  intro i
  rw [Nat.testBit_or, yodd_bit, yodd_bit, Nat.testBit_two_pow]
  by_cases e : i = p
  · subst e
    rw [yupd_same, decide_eq_true hp, decide_eq_true rfl, Bool.or_true, Bool.true_and]
    exact bne_iff_ne.mpr hv
  · rw [yupd_ne e, show decide (p = i) = false from decide_eq_false (fun h => e h.symm), Bool.or_false]
section
variable {d z0 s0 : Nat} {t u : yT} {n : Nat} {B : Nat → Nat} {q q' : Nat} {U : yU}
theorem yCs_asm {P : Nat → Prop} (C : yCs z0 s0 t n B q U) (T : yTk u n B q') {D : yD} (W : yW u 19 D) (F : yFr P t u) (hP : ∀ a, P a → a = 1 ∨ ((19 ≤ a ∧ a ≤ 28) ∨ a = 31)) {fd : Nat} {lt : Bool} (h3 : u.L 31 3 = Int64.ofNat fd) (h4 : u.L 31 4 = Int64.ofNat (yodd D.kd D.n)) (h5 : u.A 31 5 = yb lt) (h6 : u.A 31 6 = yb U.2.2.2) : yCs z0 s0 u n B q' (D, (fd, (lt, U.2.2.2))) := by
  obtain ⟨-, -, -, -, hI, hZ, hz, hs⟩ := C
  have nP : ∀ a, 31 < a → ¬ P a := fun a h1 h => by have := hP a h; omega
  exact ⟨T, W, ⟨h3, h4⟩, ⟨h5, h6⟩, fun hc => yIt_ne (hI hc) F (nP 32 (by decide)) (nP 33 (by decide)), yZ_fr hZ F, by rw [F.z]; exact hz, by rw [F.z]; exact hs⟩
theorem m_26 (K : yUk U) (C : yCs z0 s0 t n B q U) {p : Nat} (hp : p < U.1.n) (hb : ybad U.1.kd U.1.n < 10) : yRc (fun r' s' => Ra (d + 6) 26 [.ref 31, .int (yI p)] (yemb (t.sL 31 4 (Int64.ofNat (yodd U.1.kd U.1.n ||| 2 ^ p)))) r' s') z0 s0 t n B (yrkind n B q U p) := by
  have hn40 := K.1.n40
  obtain ⟨t1, ht1⟩ : ∃ t1, t1 = t.sL 31 4 (Int64.ofNat (yodd U.1.kd U.1.n ||| 2 ^ p)) := ⟨_, rfl⟩
  have F0 : yFr (fun a => a = 31) t t1 := by rw [ht1]; exact yFr_sL rfl
  have L4 : t1.L 31 4 = Int64.ofNat (yodd U.1.kd U.1.n ||| 2 ^ p) := by rw [ht1, ysL_same, vp_updL_same]
  have L3 : t1.L 31 3 = Int64.ofNat U.2.1 := by rw [ht1, ysL_same, vp_updL_if, if_neg (by decide)]; exact C.2.2.1.1
  have A31 : t1.A 31 = t.A 31 := by rw [ht1, ysL_A]
  rw [← ht1]
  have T1 : yTk t1 n B q := yTk_ne C.1 F0 (by decide) (by decide)
  have W1 : yW t1 19 U.1 := yW_fr C.2.1 F0 (fun a _ _ (h : a = 31) => by omega)
  have K1 : yKc t t1 := yKc_fr F0 (fun a h => by omega)
  have Z1 : yZz z0 s0 t1 := yZz_fr (yCs_zz C) F0
  -- a kind is set
  have set : ∀ (w : yT) (q' : Nat) (k v : Int32), yTk w n B q' → yFr (fun a => a = 1) t1 w → (k = 1 ∨ (k = 2 ∨ (k = 3 ∧ ∃ x, (2 ≤ x ∧ x < 10) ∧ v = yI x))) → Ra (d + 5) 36 [.ref 19, .int (yI p), .int k, .int v] (yemb w) (.inl none) (yemb ((w.s1 22 p k).s1 23 p v)) ∧ yCs z0 s0 ((w.s1 22 p k).s1 23 p v) n B q' (ykp U.1 p k v, U.2) := by
    intro w q' k v Tw Fw hk
    have k0 : ¬ k = 0 := by rcases hk with h | h | ⟨h, -⟩ <;> rw [h] <;> decide
    have Ww : yW w 19 U.1 := yW_fr W1 Fw (fun a g1 g2 (h : a = 1) => by omega)
    have F2 : yFr (fun a => a = 22 ∨ a = 23) w ((w.s1 22 p k).s1 23 p v) := (yFr_s1 (P := fun a => a = 22) rfl).trans (yFr_s1 (P := fun a => a = 23) rfl) (fun a h => h)
    have FF : yFr (fun a => a = 1 ∨ ((19 ≤ a ∧ a ≤ 28) ∨ a = 31)) t ((w.s1 22 p k).s1 23 p v) := (F0.trans Fw (P'' := fun a => a = 1 ∨ a = 31) (fun a h => by omega)).trans F2 (fun a h => by omega)
    have W3 : yW ((w.s1 22 p k).s1 23 p v) 19 (ykp U.1 p k v) := ⟨yDok_kp K.1 hp (by rcases hk with h | h | ⟨h, -⟩ <;> rw [h] <;> decide) (fun e => by
      rcases hk with h | h | ⟨-, h⟩
      · rw [h] at e; exact absurd e (by decide)
      · rw [h] at e; exact absurd e (by decide)
      · exact h) (fun _ _ => hb), yV_kp Ww.v⟩
    refine ⟨m_36 (d := d + 5) (o := 19) yO_19 (by omega), yCs_asm C (yTk_ne Tw F2 (by decide) (by decide)) W3 FF (fun a h => h) ?_ ?_ ?_ ?_⟩
    · rw [F2.L (by decide), Fw.L (by decide)]; exact L3
    · rw [F2.L (by decide), Fw.L (by decide), L4]
      show _ = Int64.ofNat (yodd (upd U.1.kd p k) U.1.n)
      rw [yodd_upd hp k0]
    · rw [F2.A (by decide), Fw.A (by decide), A31]; exact C.2.2.2.1.1
    · rw [F2.A (by decide), Fw.A (by decide), A31]; exact C.2.2.2.1.2
  have KS : ∀ (w : yT) (k v : Int32), yKc w ((w.s1 22 p k).s1 23 p v) := fun w k v => yKc_fr ((yFr_s1 (P := fun a => a = 22) rfl).trans (yFr_s1 (P := fun a => a = 23) rfl) (P'' := fun a => a = 22 ∨ a = 23) (fun a h => h)) (fun a h => by omega)
  have g4 : ∀ Q', Cl (d + 5) 85 [.ref 1, .ref 1000104] (yemb t1) Q' ↔ Q' _ _ := m_85 (d := d + 1) T1 (i := 4) (by decide)
  have g1 : ∀ Q', Cl (d + 5) 85 [.ref 1, .ref 1000101] (yemb t1) Q' ↔ Q' _ _ := m_85 (d := d + 1) T1 (i := 1) (by decide)
  unfold yrkind
  cases h4 : yisw n B q 4
  · rw [h4] at g4
    rw [if_neg (by decide)]
    cases h1 : yisw n B q 1
    · rw [h1] at g1
      rw [if_neg (by decide)]
      cases h12 : yisw n B q 12
      · rw [if_neg (by decide)]
        have g : ∀ Q', Cl (d + 5) 88 [.ref 1, .ref 1000112] (yemb t1) Q' ↔ Q' _ _ := m_88f (d := d) T1 (i := 12) (by decide) h12
        refine ⟨_, fun Q => ?_, yrf_8, yrf_9, yKc_x K1 yKx_rf, yZz_fr Z1 yrf_fr⟩
        show G (d + 6) 26 0 [some (.ref 31), some (.int (yI p)), none] [] (yemb t1) Q ↔ _
        simp only [s_26_0, s_26_1, s_26_2, s_26_3, s_26_4, s_26_5, s_26_6, s_26_7, s_26_8, s_26_9, s_26_10, s_26_11, s_26_12, s_26_13, s_26_14, s_26_15, s_26_16, s_26_17, s_26_18, s_26_19, s_26_20, s_26_21, s_26_22, s_26_23, s_26_24, s_26_25, s_26_26, s_26_27, s_26_28, s_26_29, s_26_30, s_26_31, s_26_32, s_26_33, s_26_34, s_26_35, s_26_36, s_26_37, s_26_38, s_26_39, s_26_40, s_26_41, s_26_42, s_26_43, s_26_44, s_26_45, s_26_46, s_26_47, s_26_48, s_26_49, s_26_50, s_26_51, s_26_52, yO_31, yO_1, yO_19, g4, g1, ifb, ifbn, Bool.false_eq_true, if_false, g, ne_eq, not_true_eq_false, ybo_0, Gk_v, Gk_n, xcat_nil, xcat_i, xcat_r, xcat_l, xcat_d, Nat.zero_le, Nat.reduceAdd, Nat.reduceLeDiff, true_and, and_true, ykl_i, ykl_r, ykl_n, ykl_l]
      · rw [if_pos rfl]
        obtain ⟨u2, hu2, T2, K2⟩ := m_88t (d := d) T1 (i := 12) (by decide) h12
        have hu2' : ∀ Q', Cl (d + 5) 88 [.ref 1, .ref 1000112] (yemb t1) Q' ↔ Q' _ _ := hu2
        have c10 : ¬ (1 : Int32) = 0 := by decide
        generalize ysk n B (q + ywl 12) = q2 at *
        unfold yrstu
        cases h5 : ynum n B q2 2 9
        · rw [if_neg (by decide)]
          have g : ∀ Q', Cl (d + 5) 89 [.ref 1, .int 2, .int 9] (yemb u2) Q' ↔ Q' _ _ := m_89f (d := d + 3) T2 (lo := 2) (hi := 9) (by decide) (by decide) h5
          have cm1 : ¬ (0 : Int32) ≤ -1 := by decide
          refine ⟨_, fun Q => ?_, yrf_8, yrf_9, yKc_x (yKc_tr K1 (yKc_p K2)) yKx_rf, yZz_fr (yZz_fr Z1 K2.2) yrf_fr⟩
          show G (d + 6) 26 0 [some (.ref 31), some (.int (yI p)), none] [] (yemb t1) Q ↔ _
          simp only [s_26_0, s_26_1, s_26_2, s_26_3, s_26_4, s_26_5, s_26_6, s_26_7, s_26_8, s_26_9, s_26_10, s_26_11, s_26_12, s_26_13, s_26_14, s_26_15, s_26_16, s_26_17, s_26_18, s_26_19, s_26_20, s_26_21, s_26_22, s_26_23, s_26_24, s_26_25, s_26_26, s_26_27, s_26_28, s_26_29, s_26_30, s_26_31, s_26_32, s_26_33, s_26_34, s_26_35, s_26_36, s_26_37, s_26_38, s_26_39, s_26_40, s_26_41, s_26_42, s_26_43, s_26_44, s_26_45, s_26_46, s_26_47, s_26_48, s_26_49, s_26_50, s_26_51, s_26_52, yO_31, yO_1, yO_19, g4, g1, ifb, ifbn, Bool.false_eq_true, if_false, if_true, hu2', c10, ne_eq, not_false_eq_true, g, cm1, ybo_0, Gk_v, Gk_n, xcat_nil, xcat_i, xcat_r, xcat_l, xcat_d, Nat.zero_le, Nat.reduceAdd, Nat.reduceLeDiff, true_and, and_true, ykl_i, ykl_r, ykl_n, ykl_l]
        · rw [if_pos rfl]
          have hv := ynv_lt h5
          obtain ⟨u3, hu3, T3, -, K3⟩ := m_89t (d := d + 3) T2 (lo := 2) (hi := 9) (by decide) h5
          have hu3' : ∀ Q', Cl (d + 5) 89 [.ref 1, .int 2, .int 9] (yemb u2) Q' ↔ Q' (.inl (some (.int (yI (ynv n B q2))))) (yemb u3) := hu3
          generalize ynv n B q2 = x at *
          have cx : (0 : Int32) ≤ yI x := Int32.not_lt.mp (yI_nneg (by omega))
          obtain ⟨hs, Cs⟩ := set u3 _ 3 (yI x) T3 (K2.2.trans K3.2 (fun a h => h.elim id id)) (Or.inr (Or.inr ⟨rfl, x, by omega, rfl⟩))
          refine ⟨_, fun Q => ?_, Cs, yKc_tr (yKc_tr (yKc_tr K1 (yKc_p K2)) (yKc_q K3)) (KS _ _ _)⟩
          show G (d + 6) 26 0 [some (.ref 31), some (.int (yI p)), none] [] (yemb t1) Q ↔ _
          simp only [s_26_0, s_26_1, s_26_2, s_26_3, s_26_4, s_26_5, s_26_6, s_26_7, s_26_8, s_26_9, s_26_10, s_26_11, s_26_12, s_26_13, s_26_14, s_26_15, s_26_16, s_26_17, s_26_18, s_26_19, s_26_20, s_26_21, s_26_22, s_26_23, s_26_24, s_26_25, s_26_26, s_26_27, s_26_28, s_26_29, s_26_30, s_26_31, s_26_32, s_26_33, s_26_34, s_26_35, s_26_36, s_26_37, s_26_38, s_26_39, s_26_40, s_26_41, s_26_42, s_26_43, s_26_44, s_26_45, s_26_46, s_26_47, s_26_48, s_26_49, s_26_50, s_26_51, s_26_52, yO_31, yO_1, yO_19, g4, g1, ifb, ifbn, Bool.false_eq_true, if_false, if_true, hu2', c10, ne_eq, not_false_eq_true, hu3', cx, hs, ybo_1, Gk_v, Gk_n, xcat_nil, xcat_i, xcat_r, xcat_l, xcat_d, Nat.zero_le, Nat.reduceAdd, Nat.reduceLeDiff, true_and, and_true, ykl_i, ykl_r, ykl_n, ykl_l]
    · rw [h1] at g1
      rw [if_pos rfl]
      obtain ⟨hs, Cs⟩ := set t1 q 2 0 T1 yFr.rfl' (Or.inr (Or.inl rfl))
      obtain ⟨u3, hu3, C3, K3⟩ := yCs_adv (d := d + 4) Cs (i := 1) (by decide) h1
      refine ⟨u3, fun Q => ?_, C3, yKc_tr (yKc_tr K1 (KS _ _ _)) K3⟩
      show G (d + 6) 26 0 [some (.ref 31), some (.int (yI p)), none] [] (yemb t1) Q ↔ _
      simp only [s_26_0, s_26_1, s_26_2, s_26_3, s_26_4, s_26_5, s_26_6, s_26_7, s_26_8, s_26_9, s_26_10, s_26_11, s_26_12, s_26_13, s_26_14, s_26_15, s_26_16, s_26_17, s_26_18, s_26_19, s_26_20, s_26_21, s_26_22, s_26_23, s_26_24, s_26_25, s_26_26, s_26_27, s_26_28, s_26_29, s_26_30, s_26_31, s_26_32, s_26_33, s_26_34, s_26_35, s_26_36, s_26_37, s_26_38, s_26_39, s_26_40, s_26_41, s_26_42, s_26_43, s_26_44, s_26_45, s_26_46, s_26_47, s_26_48, s_26_49, s_26_50, s_26_51, s_26_52, yO_31, yO_1, yO_19, g4, g1, ifb, ifbn, Bool.false_eq_true, if_false, if_true, hs, hu3, ybo_1, Gk_v, Gk_n, xcat_nil, xcat_i, xcat_r, xcat_l, xcat_d, Nat.zero_le, Nat.reduceAdd, Nat.reduceLeDiff, true_and, and_true, ykl_i, ykl_r, ykl_n, ykl_l]
  · rw [h4] at g4
    rw [if_pos rfl]
    obtain ⟨hs, Cs⟩ := set t1 q 1 0 T1 yFr.rfl' (Or.inl rfl)
    obtain ⟨u3, hu3, C3, K3⟩ := yCs_adv (d := d + 4) Cs (i := 4) (by decide) h4
    refine ⟨u3, fun Q => ?_, C3, yKc_tr (yKc_tr K1 (KS _ _ _)) K3⟩
    show G (d + 6) 26 0 [some (.ref 31), some (.int (yI p)), none] [] (yemb t1) Q ↔ _
    simp only [s_26_0, s_26_1, s_26_2, s_26_3, s_26_4, s_26_5, s_26_6, s_26_7, s_26_8, s_26_9, s_26_10, s_26_11, s_26_12, s_26_13, s_26_14, s_26_15, s_26_16, s_26_17, s_26_18, s_26_19, s_26_20, s_26_21, s_26_22, s_26_23, s_26_24, s_26_25, s_26_26, s_26_27, s_26_28, s_26_29, s_26_30, s_26_31, s_26_32, s_26_33, s_26_34, s_26_35, s_26_36, s_26_37, s_26_38, s_26_39, s_26_40, s_26_41, s_26_42, s_26_43, s_26_44, s_26_45, s_26_46, s_26_47, s_26_48, s_26_49, s_26_50, s_26_51, s_26_52, yO_31, yO_1, yO_19, g4, ifb, ifbn, Bool.false_eq_true, if_false, if_true, hs, hu3, ybo_1, Gk_v, Gk_n, xcat_nil, xcat_i, xcat_r, xcat_l, xcat_d, Nat.zero_le, Nat.reduceAdd, Nat.reduceLeDiff, true_and, and_true, ykl_i, ykl_r, ykl_n, ykl_l]
theorem m_25 (K : yUk U) (C : yCs z0 s0 t n B q U) (hw : yisw n B q 0 = true) : yRc (fun r' s' => Ra (d + 7) 25 [.ref 31] (yemb t) r' s') z0 s0 t n B (yrbad n B q U) := by
  have hn1 := K.1.n1
  have hn40 := K.1.n40
  have hbad := K.1.bad
  have hodd : yodd U.1.kd U.1.n < 2 ^ 40 := Nat.lt_of_lt_of_le (yodd_lt _) (Nat.pow_le_pow_right (by decide) hn40)
  have g216 : ∀ Q', Cl (d + 6) 216 [.long (t.L 31 4)] (yemb t) Q' ↔ Q' (.inl (some (.int (yI (ybad U.1.kd U.1.n))))) (yemb t) := by
    intro Q'
    rw [C.2.2.1.2, m_216 (Nat.lt_trans hodd (by decide)), ybad_pc K.1]
  unfold yrbad
  by_cases h0 : 10 ≤ ybad U.1.kd U.1.n
  · rw [if_pos h0]
    have c1 : ¬ yI (ybad U.1.kd U.1.n) < 10 := fun h => absurd ((yI_lt (m := 10) (by omega) (by decide)).mp h) (by omega)
    have g := m_90 (d := d + 5) (t := t) (c := -5)
    rw [C.1.2.2.1] at g
    refine ⟨_, fun Q => ?_, yCs_er C⟩
    show G (d + 7) 25 0 [some (.ref 31), none] [] (yemb t) Q ↔ _
    simp only [s_25_0, s_25_1, s_25_2, s_25_3, s_25_4, s_25_5, s_25_6, s_25_7, s_25_8, s_25_9, s_25_10, s_25_11, s_25_12, s_25_13, s_25_14, s_25_15, s_25_16, s_25_17, s_25_18, s_25_19, s_25_20, s_25_21, s_25_22, s_25_23, s_25_24, s_25_25, s_25_26, s_25_27, s_25_28, s_25_29, s_25_30, s_25_31, s_25_32, s_25_33, s_25_34, s_25_35, s_25_36, s_25_37, s_25_38, s_25_38i, s_25_39, s_25_40, s_25_41, s_25_42, s_25_43, s_25_44, s_25_45, s_25_46, s_25_47, s_25_48, yO_31, yO_1, g216, c1, if_false, g, ybo_0, Gk_v, Gk_n, xcat_nil, xcat_i, xcat_r, xcat_l, xcat_d, Nat.zero_le, Nat.reduceAdd, Nat.reduceLeDiff, true_and, and_true, ykl_i, ykl_r, ykl_n, ykl_l]
  · rw [if_neg h0]
    have c1 : yI (ybad U.1.kd U.1.n) < 10 := (yI_lt (m := 10) (by omega) (by decide)).mpr (by omega)
    obtain ⟨u1, hu1, C1, K1⟩ := yCs_adv (d := d + 5) C (by decide) hw
    generalize ysk n B (q + ywl 0) = q1 at *
    have en : yI U.1.n - 1 = yI (U.1.n - 1) := yI_sub1 hn1
    have cm1 : ¬ (0 : Int32) ≤ -1 := by decide
    unfold yrbad1
    cases h1 : ynum n B q1 0 (U.1.n - 1)
    · rw [if_neg (by decide)]
      have g : ∀ Q', Cl (d + 6) 89 [.ref 1, .int 0, .int (yI (U.1.n - 1))] (yemb u1) Q' ↔ Q' _ _ := m_89f (d := d + 4) C1.1 (lo := 0) (by decide) (by omega) h1
      refine ⟨_, fun Q => ?_, yCs_err C1 K1⟩
      show G (d + 7) 25 0 [some (.ref 31), none] [] (yemb t) Q ↔ _
      simp only [s_25_0, s_25_1, s_25_2, s_25_3, s_25_4, s_25_5, s_25_6, s_25_7, s_25_8, s_25_9, s_25_10, s_25_11, s_25_12, s_25_13, s_25_14, s_25_15, s_25_16, s_25_17, s_25_18, s_25_19, s_25_20, s_25_21, s_25_22, s_25_23, s_25_24, s_25_25, s_25_26, s_25_27, s_25_28, s_25_29, s_25_30, s_25_31, s_25_32, s_25_33, s_25_34, s_25_35, s_25_36, s_25_37, s_25_38, s_25_38i, s_25_39, s_25_40, s_25_41, s_25_42, s_25_43, s_25_44, s_25_45, s_25_46, s_25_47, s_25_48, yO_31, yO_1, yO_19, g216, c1, if_true, hu1, C1.2.1.n, en, g, cm1, if_false, ybo_0, Gk_v, Gk_n, xcat_nil, xcat_i, xcat_r, xcat_l, xcat_d, Nat.zero_le, Nat.reduceAdd, Nat.reduceLeDiff, true_and, and_true, ykl_i, ykl_r, ykl_n, ykl_l]
    · rw [if_pos rfl]
      have hv := ynv_lt h1
      obtain ⟨u2, hu2, C2, h7, K2⟩ := yCs_num (d := d + 4) C1 (lo := 0) (by omega) h1
      have hu2' : ∀ Q', Cl (d + 6) 89 [.ref 1, .int 0, .int (yI (U.1.n - 1))] (yemb u1) Q' ↔ Q' _ _ := hu2
      have K12 := yKc_tr K1 K2
      generalize ynv n B q1 = p at *
      have hpn : p < U.1.n := by omega
      have cp : (0 : Int32) ≤ yI p := Int32.not_lt.mp (yI_nneg (by omega))
      have g64 : ∀ Q', Cl (d + 6) 64 [.long (u2.L 31 4), .int (yI p)] (yemb u2) Q' ↔ Q' (.inl (some (.int (yb (U.1.kd p != 0))))) (yemb u2) := by
        intro Q'
        rw [m_64, C2.2.2.1.2, yin_nat (Nat.lt_trans hodd (by decide)) (by omega), yodd_bit, decide_eq_true hpn, Bool.true_and]
      by_cases h2 : U.1.kd p = 0
      · rw [if_pos h2]
        rw [show (U.1.kd p != 0) = false by rw [h2]; rfl] at g64
        have H := m_26 (d := d) K C2 hpn (by omega)
        have eor : Int64.ofNat (yodd U.1.kd U.1.n) ||| (1 : Int64) <<< ((yI p).toInt64 &&& 63) = Int64.ofNat (yodd U.1.kd U.1.n ||| 2 ^ p) := by
          rw [yL_shl (by omega), yL_or]
        have b2 := C2.2.2.1.2
        rw [b2] at g64
        rcases hr : yrkind n B (ynq n B q1) U p with ⟨c, a⟩ | ⟨q3, U3⟩
        · rw [hr] at H
          obtain ⟨u3, hu3, x8, x9, x10, x11⟩ := H
          refine ⟨u3, fun Q => ?_, x8, x9, yKc_x K12 x10, x11⟩
          show G (d + 7) 25 0 [some (.ref 31), none] [] (yemb t) Q ↔ _
          simp only [s_25_0, s_25_1, s_25_2, s_25_3, s_25_4, s_25_5, s_25_6, s_25_7, s_25_8, s_25_9, s_25_10, s_25_11, s_25_12, s_25_13, s_25_14, s_25_15, s_25_16, s_25_17, s_25_18, s_25_19, s_25_20, s_25_21, s_25_22, s_25_23, s_25_24, s_25_25, s_25_26, s_25_27, s_25_28, s_25_29, s_25_30, s_25_31, s_25_32, s_25_33, s_25_34, s_25_35, s_25_36, s_25_37, s_25_38, s_25_38i, s_25_39, s_25_40, s_25_41, s_25_42, s_25_43, s_25_44, s_25_45, s_25_46, s_25_47, s_25_48, yO_31, yO_1, yO_19, g216, c1, if_true, hu1, C1.2.1.n, en, hu2', cp, g64, ifb, Bool.false_eq_true, if_false, b2, eor, hu3, ybo_0, Gk_v, Gk_n, xcat_nil, xcat_i, xcat_r, xcat_l, xcat_d, Nat.zero_le, Nat.reduceAdd, Nat.reduceLeDiff, true_and, and_true, ykl_i, ykl_r, ykl_n, ykl_l]
        · rw [hr] at H
          obtain ⟨u3, hu3, C3, K3⟩ := H
          refine ⟨u3, fun Q => ?_, C3, yKc_tr K12 K3⟩
          show G (d + 7) 25 0 [some (.ref 31), none] [] (yemb t) Q ↔ _
          simp only [s_25_0, s_25_1, s_25_2, s_25_3, s_25_4, s_25_5, s_25_6, s_25_7, s_25_8, s_25_9, s_25_10, s_25_11, s_25_12, s_25_13, s_25_14, s_25_15, s_25_16, s_25_17, s_25_18, s_25_19, s_25_20, s_25_21, s_25_22, s_25_23, s_25_24, s_25_25, s_25_26, s_25_27, s_25_28, s_25_29, s_25_30, s_25_31, s_25_32, s_25_33, s_25_34, s_25_35, s_25_36, s_25_37, s_25_38, s_25_38i, s_25_39, s_25_40, s_25_41, s_25_42, s_25_43, s_25_44, s_25_45, s_25_46, s_25_47, s_25_48, yO_31, yO_1, yO_19, g216, c1, if_true, hu1, C1.2.1.n, en, hu2', cp, g64, ifb, Bool.false_eq_true, if_false, b2, eor, hu3, ybo_1, Gk_v, Gk_n, xcat_nil, xcat_i, xcat_r, xcat_l, xcat_d, Nat.zero_le, Nat.reduceAdd, Nat.reduceLeDiff, true_and, and_true, ykl_i, ykl_r, ykl_n, ykl_l]
      · rw [if_neg h2]
        rw [show (U.1.kd p != 0) = true from bne_iff_ne.mpr h2] at g64
        have g := m_91 (d := d + 5) (t := u2) (c := -4)
        rw [h7] at g
        refine ⟨_, fun Q => ?_, yCs_err C2 K12⟩
        show G (d + 7) 25 0 [some (.ref 31), none] [] (yemb t) Q ↔ _
        simp only [s_25_0, s_25_1, s_25_2, s_25_3, s_25_4, s_25_5, s_25_6, s_25_7, s_25_8, s_25_9, s_25_10, s_25_11, s_25_12, s_25_13, s_25_14, s_25_15, s_25_16, s_25_17, s_25_18, s_25_19, s_25_20, s_25_21, s_25_22, s_25_23, s_25_24, s_25_25, s_25_26, s_25_27, s_25_28, s_25_29, s_25_30, s_25_31, s_25_32, s_25_33, s_25_34, s_25_35, s_25_36, s_25_37, s_25_38, s_25_38i, s_25_39, s_25_40, s_25_41, s_25_42, s_25_43, s_25_44, s_25_45, s_25_46, s_25_47, s_25_48, yO_31, yO_1, yO_19, g216, c1, if_true, hu1, C1.2.1.n, en, hu2', cp, g64, ifb, g, ybo_0, Gk_v, Gk_n, xcat_nil, xcat_i, xcat_r, xcat_l, xcat_d, Nat.zero_le, Nat.reduceAdd, Nat.reduceLeDiff, true_and, and_true, ykl_i, ykl_r, ykl_n, ykl_l]
theorem m_28 (K : yUk U) (C : yCs z0 s0 t n B q U) (hw : yisw n B q 7 = true) : yRc (fun r' s' => Ra (d + 3) 28 [.ref 31] (yemb t) r' s') z0 s0 t n B (yrlev n B (ysk n B (q + ywl 7)) U) := by
  have F0 : yFr (fun a => a = 31) t (t.s1 31 5 1) := yFr_s1 rfl
  have C0 : yCs z0 s0 (t.s1 31 5 1) n B q (U.1, (U.2.1, (true, U.2.2.2))) := by
    refine yCs_asm C (yTk_ne C.1 F0 (by decide) (by decide)) (yW_fr C.2.1 F0 (fun a _ _ (h : a = 31) => by omega)) F0 (fun a h => Or.inr (Or.inr h)) C.2.2.1.1 C.2.2.1.2 ys1_same ?_
    rw [ys1_upd, yupd_ne (by decide)]
    exact C.2.2.2.1.2
  have K0 : yKc t (t.s1 31 5 1) := yKc_fr F0 (fun a h => by omega)
  obtain ⟨u1, hu1, C1, K1⟩ := yCs_adv (d := d + 1) C0 (by decide) hw
  generalize ysk n B (q + ywl 7) = q1 at *
  have cm1 : ¬ (0 : Int32) ≤ -1 := by decide
  unfold yrlev
  cases h1 : ynum n B q1 0 255
  · rw [if_neg (by decide)]
    have g : ∀ Q', Cl (d + 2) 89 [.ref 1, .int 0, .int 255] (yemb u1) Q' ↔ Q' _ _ := m_89f (d := d) C1.1 (lo := 0) (hi := 255) (by decide) (by decide) h1
    refine ⟨_, fun Q => ?_, yCs_err C1 (yKc_tr K0 K1)⟩
    show G (d + 3) 28 0 [some (.ref 31), none] [] (yemb t) Q ↔ _
    simp only [s_28_0, s_28_1, s_28_2, s_28_3, s_28_4, s_28_5, s_28_6, s_28_7, s_28_8, s_28_9, s_28_10, s_28_11, s_28_12, s_28_13, s_28_14, s_28_15, s_28_16, s_28_17, s_28_18, s_28_19, s_28_20, s_28_21, yO_31, yO_1, yO_19, ybo_1, hu1, g, cm1, if_false, ybo_0, Gk_v, Gk_n, xcat_nil, xcat_i, xcat_r, xcat_l, xcat_d, Nat.zero_le, Nat.reduceAdd, Nat.reduceLeDiff, true_and, and_true, ykl_i, ykl_r, ykl_n, ykl_l]
  · rw [if_pos rfl]
    have hv := ynv_lt h1
    obtain ⟨u2, hu2, C2, -, K2⟩ := yCs_num (d := d) C1 (lo := 0) (hi := 255) (by decide) h1
    have hu2' : ∀ Q', Cl (d + 2) 89 [.ref 1, .int 0, .int 255] (yemb u1) Q' ↔ Q' _ _ := hu2
    generalize ynv n B q1 = l at *
    have cl : (0 : Int32) ≤ yI l := Int32.not_lt.mp (yI_nneg (by omega))
    have W3 : yW (u2.s1 19 11 (yI l)) 19 (U.1.slv (yI l)) := ⟨yDok_slv K.1 (by omega), yV_slv C2.2.1.v⟩
    obtain ⟨C3, K3⟩ := yCs_D C2 W3 (yFr_s1 (P := fun a => a = 19) rfl) (fun a h => by omega) rfl
    refine ⟨_, fun Q => ?_, C3, yKc_tr (yKc_tr (yKc_tr K0 K1) K2) K3⟩
    show G (d + 3) 28 0 [some (.ref 31), none] [] (yemb t) Q ↔ _
    simp only [s_28_0, s_28_1, s_28_2, s_28_3, s_28_4, s_28_5, s_28_6, s_28_7, s_28_8, s_28_9, s_28_10, s_28_11, s_28_12, s_28_13, s_28_14, s_28_15, s_28_16, s_28_17, s_28_18, s_28_19, s_28_20, s_28_21, yO_31, yO_1, yO_19, ybo_1, hu1, hu2', cl, if_true, Gk_v, Gk_n, xcat_nil, xcat_i, xcat_r, xcat_l, xcat_d, Nat.zero_le, Nat.reduceAdd, Nat.reduceLeDiff, true_and, and_true, ykl_i, ykl_r, ykl_n, ykl_l]
end

/-! ===== the class's setups whole ===== -/
theorem xc_r1' {z : Nat} : xcat [.ref z] ≤ 8 := Nat.le_of_ble_eq_true rfl
section
variable {d z0 s0 : Nat} {t u : yT} {n : Nat} {B : Nat → Nat} {q q' : Nat} {U : yU}
theorem m_79 {n0 : Nat} (h1 : t.A 1 1 = yI n0) (hn : n ≤ n0) (h6 : n0 ≤ 600) (hB : ∀ i, i < n → B i < 256 ∧ t.A 2 i = ysb (B i)) : ∃ u, Ra (d + 2) 79 [.ref 1, .int (yI n)] (yemb t) (.inl none) (yemb u) ∧ (yTk u n B (ysk n B 0) ∧ (u.A 1 8 = 0 ∧ (u.A 1 9 = -1 ∧ (u.A 1 1 = t.A 1 1 ∧ yFr (fun a => a = 1) t u)))) := by
  have c1 : (if yI n < yI n0 then yI n else yI n0) = yI n := by
    by_cases h : n < n0
    · rw [if_pos ((yI_lt (by omega) (by omega)).mpr h)]
    · rw [if_neg (fun h' => h ((yI_lt (by omega) (by omega)).mp h')), show n0 = n by omega]
  have c2 : (if (0 : Int32) < yI n then yI n else 0) = yI n := by
    have h0 : (0 : Int32) < yI n ↔ 0 < n := yI_lt (n := 0) (by decide) (by omega)
    by_cases h : 0 < n
    · rw [if_pos (h0.mpr h)]
    · rw [if_neg (fun h' => h (h0.mp h')), show n = 0 by omega]
      rfl
  obtain ⟨w, hw⟩ : ∃ w, w = (((t.s1 1 2 (yI n)).s1 1 5 0).s1 1 8 0).s1 1 9 (-1) := ⟨_, rfl⟩
  have wA : w.A 1 = upd (upd (upd (upd (t.A 1) 2 (yI n)) 5 0) 8 0) 9 (-1) := by
    rw [hw, ys1_upd, ys1_upd, ys1_upd, ys1_upd]
  have F0 : yFr (fun a => a = 1) t w := by
    rw [hw]
    exact (((yFr_s1 (P := fun a => a = 1) rfl).trans (yFr_s1 (P := fun a => a = 1) rfl) (P'' := fun a => a = 1) (fun a h => h.elim id id)).trans (yFr_s1 (P := fun a => a = 1) rfl) (P'' := fun a => a = 1) (fun a h => h.elim id id)).trans (yFr_s1 (P := fun a => a = 1) rfl) (fun a h => h.elim id id)
  have X : yXt w n B := by
    refine ⟨by omega, ?_, fun i hi => ?_⟩
    · rw [wA, yupd_ne (by decide), yupd_ne (by decide), yupd_ne (by decide), yupd_same]
    · rw [F0.A (by decide)]
      exact hB i hi
  have w5 : w.A 1 5 = yI 0 := by rw [wA, yupd_ne (by decide), yupd_ne (by decide), yupd_same]; rfl
  obtain ⟨u, hu, Tu, Ku⟩ := m_80 (d := d) X (Nat.zero_le _) w5
  refine ⟨u, fun Q => ?_, Tu, ?_, ?_, ?_, F0.trans Ku.2 (fun a h => h.elim id id)⟩
  · have hu' := hu Q
    show G (d + 2) 79 0 [some (.ref 1), some (.int (yI n))] [] (yemb t) Q ↔ _
    simp only [s_79_0, s_79_1, s_79_2, s_79_3 yO_1, s_79_4, s_79_5 xc_ir, h1, c1, s_79_6 xc_r1', c2, s_79_7 yO_1, s_79_8, s_79_9, s_79_10 yO_1, s_79_11, s_79_12, s_79_13 yO_1, s_79_14, s_79_15, s_79_16 yO_1, s_79_17, s_79_18 yO_1, s_79_19, ← hw, hu, Gk_v, Gk_n, xcat_nil, xcat_i, xcat_r, xcat_l, xcat_d, Nat.zero_le, Nat.reduceAdd, Nat.reduceLeDiff, true_and, and_true, ykl_i, ykl_r, ykl_n, ykl_l]
  · rw [Ku.1 8 (by decide), wA, yupd_ne (by decide), yupd_same]
  · rw [Ku.1 9 (by decide), wA, yupd_same]
  · rw [Ku.1 1 (by decide), wA, yupd_ne (by decide), yupd_ne (by decide), yupd_ne (by decide), yupd_ne (by decide)]
theorem m_78 : Ra d 78 [.ref 1] (yemb t) (.inl none) (yemb (t.s1 1 1 0)) := by
  intro Q
  show G d 78 0 [some (.ref 1)] [] (yemb t) Q ↔ _
  simp only [s_78_0, s_78_1, s_78_2, s_78_3, yO_1, Gk_v, Gk_n, xcat_nil, xcat_i, xcat_r, xcat_l, xcat_d, Nat.zero_le, Nat.reduceAdd, Nat.reduceLeDiff, true_and, and_true, ykl_i, ykl_r, ykl_n, ykl_l]
/-- ahead of a setup -/
abbrev yCp (z0 s0 : Nat) (t : yT) (n : Nat) (B : Nat → Nat) (q : Nat) : Prop := yTk t n B q ∧ ((t.L 31 3 = 0 ∧ t.L 31 4 = 0) ∧ ((t.A 31 5 = 0 ∧ t.A 31 6 = 0) ∧ (yIt t [] ∧ (yZ t ∧ (t.z.1.1 + 1 ≤ z0 ∧ t.z.1.2 ≤ s0)))))
theorem yCp_tk {P : Nat → Prop} (C : yCp z0 s0 t n B q) (T : yTk u n B q') (F : yFr P t u) (hP : ∀ a, P a → a = 1) : yCp z0 s0 u n B q' := by
  obtain ⟨-, ⟨h3, h4⟩, ⟨h5, h6⟩, hI, hZ, hz, hs⟩ := C
  have nP : ∀ a, 2 ≤ a → ¬ P a := fun a h1 h => by have := hP a h; omega
  refine ⟨T, ⟨?_, ?_⟩, ⟨?_, ?_⟩, yIt_ne hI F (nP 32 (by decide)) (nP 33 (by decide)), yZ_fr hZ F, ?_, ?_⟩
  · rw [F.L (nP 31 (by decide))]; exact h3
  · rw [F.L (nP 31 (by decide))]; exact h4
  · rw [F.A (nP 31 (by decide))]; exact h5
  · rw [F.A (nP 31 (by decide))]; exact h6
  · rw [F.z]; exact hz
  · rw [F.z]; exact hs
theorem yCp_er {t0 : yT} (C : yCp z0 s0 t n B q) (K : yKc t0 t) {c a : Int32} : (yrf t c a).A 1 8 = c ∧ ((yrf t c a).A 1 9 = a ∧ (yKx t0 (yrf t c a) ∧ yZz z0 s0 (yrf t c a))) := by
  obtain ⟨-, -, -, -, hZ, hz, hs⟩ := C
  exact ⟨yrf_8, yrf_9, yKc_x K yKx_rf, yZz_fr ⟨hZ, by omega, by omega⟩ yrf_fr⟩
theorem yCs_end (C : yCs z0 s0 t n B q U) {t0 : yT} (K : yKc t0 t) {run : xR → xS → Prop} (h1 : ∀ u, Ra (d + 2) 87 [.ref 1, .int (yI 59)] (yemb t) (.inl (some (.int 1))) (yemb u) → run (.inl (some (.int 1))) (yemb u)) (h0 : ∀ u, Ra (d + 2) 87 [.ref 1, .int (yI 59)] (yemb t) (.inl (some (.int 0))) (yemb u) → run (.inl (some (.int 0))) (yemb u)) : yRc run z0 s0 t0 n B (yrend n B q U) := by
  unfold yrend
  cases h : yat n B q 59
  · rw [if_neg (by decide)]
    exact ⟨_, h0 _ (m_87f (d := d) C.1 (c := 59) (by decide) (by decide) (by decide) (of_decide_eq_false h)), yCs_err C K⟩
  · rw [if_pos rfl]
    obtain ⟨u, hu, Tu, Ku⟩ := m_87t (d := d) C.1 (c := 59) (by decide) (by decide) (by decide) (of_decide_eq_true h)
    exact ⟨u, h1 u hu, yCs_tk C Tu Ku.2 (fun a h => h), yKc_tr K (yKc_p Ku)⟩
theorem m_22 (hz0 : z0 < 899000) (C : yCp z0 s0 t n B (ysk n B 0)) : yRc (fun r' s' => Ra (d + 6) 22 [.ref 31] (yemb t) r' s') z0 s0 t n B (yrhd n B) := by
  have c10 : ¬ (1 : Int32) = 0 := by decide
  have cm1 : ¬ (0 : Int32) ≤ -1 := by decide
  unfold yrhd
  generalize ysk n B 0 = q at *
  cases h11 : yisw n B q 11
  · rw [if_neg (by decide)]
    have g : ∀ Q', Cl (d + 5) 88 [.ref 1, .ref 1000111] (yemb t) Q' ↔ Q' _ _ := m_88f (d := d) C.1 (i := 11) (by decide) h11
    refine ⟨_, fun Q => ?_, yCp_er C yKc_rfl⟩
    show G (d + 6) 22 0 [some (.ref 31), none, none] [] (yemb t) Q ↔ _
    simp only [s_22_0, s_22_1, s_22_2, s_22_3, s_22_4, s_22_5, s_22_6, s_22_7, s_22_8, s_22_9, s_22_10, s_22_11, s_22_12, s_22_13, s_22_14, s_22_15, s_22_16, s_22_17, s_22_18, s_22_19, s_22_20, s_22_21, s_22_22, s_22_23, s_22_24, s_22_25, s_22_26, s_22_27, s_22_28, s_22_29, s_22_30, s_22_31, s_22_32, s_22_33, s_22_34, s_22_35, s_22_36, yO_31, yO_1, g, ne_eq, not_true_eq_false, if_false, ybo_0, Gk_v, Gk_n, xcat_nil, xcat_i, xcat_r, xcat_l, xcat_d, Nat.zero_le, Nat.reduceAdd, Nat.reduceLeDiff, true_and, and_true, ykl_i, ykl_r, ykl_n, ykl_l]
  · rw [if_pos rfl]
    obtain ⟨u1, hu1, T1, K1⟩ := m_88t (d := d) C.1 (i := 11) (by decide) h11
    have hu1' : ∀ Q', Cl (d + 5) 88 [.ref 1, .ref 1000111] (yemb t) Q' ↔ Q' _ _ := hu1
    have C1 := yCp_tk C T1 K1.2 (fun a h => h)
    have K1c := yKc_p K1
    generalize ysk n B (q + ywl 11) = q1 at *
    unfold yrh1
    cases h1 : ynum n B q1 1 40
    · rw [if_neg (by decide)]
      have g : ∀ Q', Cl (d + 5) 89 [.ref 1, .int 1, .int 40] (yemb u1) Q' ↔ Q' _ _ := m_89f (d := d + 3) T1 (lo := 1) (hi := 40) (by decide) (by decide) h1
      refine ⟨_, fun Q => ?_, yCp_er C1 K1c⟩
      show G (d + 6) 22 0 [some (.ref 31), none, none] [] (yemb t) Q ↔ _
      simp only [s_22_0, s_22_1, s_22_2, s_22_3, s_22_4, s_22_5, s_22_6, s_22_7, s_22_8, s_22_9, s_22_10, s_22_11, s_22_12, s_22_13, s_22_14, s_22_15, s_22_16, s_22_17, s_22_18, s_22_19, s_22_20, s_22_21, s_22_22, s_22_23, s_22_24, s_22_25, s_22_26, s_22_27, s_22_28, s_22_29, s_22_30, s_22_31, s_22_32, s_22_33, s_22_34, s_22_35, s_22_36, yO_31, yO_1, hu1', c10, ne_eq, not_false_eq_true, if_true, g, cm1, if_false, ybo_0, Gk_v, Gk_n, xcat_nil, xcat_i, xcat_r, xcat_l, xcat_d, Nat.zero_le, Nat.reduceAdd, Nat.reduceLeDiff, true_and, and_true, ykl_i, ykl_r, ykl_n, ykl_l]
    · rw [if_pos rfl]
      have hv := ynv_lt h1
      obtain ⟨u2, hu2, T2, -, K2⟩ := m_89t (d := d + 3) T1 (lo := 1) (hi := 40) (by decide) h1
      have hu2' : ∀ Q', Cl (d + 5) 89 [.ref 1, .int 1, .int 40] (yemb u1) Q' ↔ Q' (.inl (some (.int (yI (ynv n B q1))))) (yemb u2) := hu2
      have C2 : yCp z0 s0 u2 n B (ynq n B q1) := yCp_tk C1 T2 K2.2 (fun a h => h)
      have K2c := yKc_tr K1c (yKc_q K2)
      have T2' : yTk u2 n B (ynq n B q1) := T2
      generalize ynq n B q1 = q2 at *
      generalize ynv n B q1 = a at *
      have ca : (0 : Int32) ≤ yI a := Int32.not_lt.mp (yI_nneg (by omega))
      cases h2 : ynum n B q2 1 100
      · rw [if_neg (by decide)]
        have g : ∀ Q', Cl (d + 5) 89 [.ref 1, .int 1, .int 100] (yemb u2) Q' ↔ Q' _ _ := m_89f (d := d + 3) T2' (lo := 1) (hi := 100) (by decide) (by decide) h2
        refine ⟨_, fun Q => ?_, yCp_er C2 K2c⟩
        show G (d + 6) 22 0 [some (.ref 31), none, none] [] (yemb t) Q ↔ _
        simp only [s_22_0, s_22_1, s_22_2, s_22_3, s_22_4, s_22_5, s_22_6, s_22_7, s_22_8, s_22_9, s_22_10, s_22_11, s_22_12, s_22_13, s_22_14, s_22_15, s_22_16, s_22_17, s_22_18, s_22_19, s_22_20, s_22_21, s_22_22, s_22_23, s_22_24, s_22_25, s_22_26, s_22_27, s_22_28, s_22_29, s_22_30, s_22_31, s_22_32, s_22_33, s_22_34, s_22_35, s_22_36, yO_31, yO_1, hu1', c10, ne_eq, not_false_eq_true, if_true, hu2', ca, g, cm1, if_false, ybo_0, Gk_v, Gk_n, xcat_nil, xcat_i, xcat_r, xcat_l, xcat_d, Nat.zero_le, Nat.reduceAdd, Nat.reduceLeDiff, true_and, and_true, ykl_i, ykl_r, ykl_n, ykl_l]
      · rw [if_pos rfl]
        have hw := ynv_lt h2
        obtain ⟨u3, hu3, T3, -, K3⟩ := m_89t (d := d + 3) T2' (lo := 1) (hi := 100) (by decide) h2
        have hu3' : ∀ Q', Cl (d + 5) 89 [.ref 1, .int 1, .int 100] (yemb u2) Q' ↔ Q' (.inl (some (.int (yI (ynv n B q2))))) (yemb u3) := hu3
        have C3 : yCp z0 s0 u3 n B (ynq n B q2) := yCp_tk C2 T3 K3.2 (fun a h => h)
        have K3c := yKc_tr K2c (yKc_q K3)
        generalize ynq n B q2 = q3 at *
        generalize ynv n B q2 = b at *
        have cb : (0 : Int32) ≤ yI b := Int32.not_lt.mp (yI_nneg (by omega))
        obtain ⟨T3', ⟨x3, x4⟩, ⟨x5, x6⟩, xI, xZ, xz, xs⟩ := C3
        have hz3 : u3.z.1.1 < 900000 := by omega
        have g30 := m_30 (d := d + 4) (o := 19) (n := a) (m := b) yO_19 xZ hz3
        obtain ⟨F4, Z4⟩ := yres_F (o := 19) (n := a) (m := b) xZ
        have W4 := yres_W yO_19 xZ hz3 hv.2.1 hv.2.2 hw.2.1 hw.2.2
        have zz : (yres u3 19 a b).z = ((u3.z.1.1 + 1, u3.z.1.2 + 0), u3.z.2) := rfl
        have C4 : yCs z0 s0 (yres u3 19 a b) n B q3 (yD0 a b, (0, (false, false))) := by
          have hA : ∀ x, (x < 19 ∨ 28 < x) → (yres u3 19 a b).A x = u3.A x := fun x hx => F4.A (by omega)
          have hL : (yres u3 19 a b).L 31 = u3.L 31 := F4.L (by omega)
          refine ⟨?_, W4, ⟨?_, ?_⟩, ⟨?_, ?_⟩, fun _ => ?_, Z4, ?_, ?_⟩
          · unfold yTk yXt at T3' ⊢
            rw [hA 1 (by decide), hA 2 (by decide)]
            exact T3'
          · rw [hL]; exact x3
          · rw [hL, x4, yD0_kd, yodd_0]; rfl
          · rw [hA 31 (by decide)]; exact x5
          · rw [hA 31 (by decide)]; exact x6
          · unfold yIt at xI ⊢
            rw [hA 32 (by decide), hA 33 (by decide)]
            exact xI
          · rw [zz]
            show u3.z.1.1 + 1 ≤ z0 + 0
            omega
          · rw [zz]
            show u3.z.1.2 + 0 ≤ s0 + 0
            omega
        have K4c : yKc t (yres u3 19 a b) := yKc_tr K3c ⟨fun j _ => by rw [F4.A (by decide)], F4.mono (fun a h => Or.inr (by omega))⟩
        refine yCs_end (d := d + 3) C4 K4c (fun u hu Q => ?_) (fun u hu Q => ?_)
        · have hu' : ∀ Q', Cl (d + 5) 87 [.ref 1, .int 59] (yemb (yres u3 19 a b)) Q' ↔ Q' (.inl (some (.int 1))) (yemb u) := hu
          show G (d + 6) 22 0 [some (.ref 31), none, none] [] (yemb t) Q ↔ _
          simp only [s_22_0, s_22_1, s_22_2, s_22_3, s_22_4, s_22_5, s_22_6, s_22_7, s_22_8, s_22_9, s_22_10, s_22_11, s_22_12, s_22_13, s_22_14, s_22_15, s_22_16, s_22_17, s_22_18, s_22_19, s_22_20, s_22_21, s_22_22, s_22_23, s_22_24, s_22_25, s_22_26, s_22_27, s_22_28, s_22_29, s_22_30, s_22_31, s_22_32, s_22_33, s_22_34, s_22_35, s_22_36, yO_31, yO_1, yO_19, hu1', c10, ne_eq, not_false_eq_true, if_true, hu2', ca, hu3', cb, g30, hu', ybo_1, Gk_v, Gk_n, xcat_nil, xcat_i, xcat_r, xcat_l, xcat_d, Nat.zero_le, Nat.reduceAdd, Nat.reduceLeDiff, true_and, and_true, ykl_i, ykl_r, ykl_n, ykl_l]
        · have hu' : ∀ Q', Cl (d + 5) 87 [.ref 1, .int 59] (yemb (yres u3 19 a b)) Q' ↔ Q' (.inl (some (.int 0))) (yemb u) := hu
          show G (d + 6) 22 0 [some (.ref 31), none, none] [] (yemb t) Q ↔ _
          simp only [s_22_0, s_22_1, s_22_2, s_22_3, s_22_4, s_22_5, s_22_6, s_22_7, s_22_8, s_22_9, s_22_10, s_22_11, s_22_12, s_22_13, s_22_14, s_22_15, s_22_16, s_22_17, s_22_18, s_22_19, s_22_20, s_22_21, s_22_22, s_22_23, s_22_24, s_22_25, s_22_26, s_22_27, s_22_28, s_22_29, s_22_30, s_22_31, s_22_32, s_22_33, s_22_34, s_22_35, s_22_36, yO_31, yO_1, yO_19, hu1', c10, ne_eq, not_false_eq_true, if_true, hu2', ca, hu3', cb, g30, hu', ybo_0, Gk_v, Gk_n, xcat_nil, xcat_i, xcat_r, xcat_l, xcat_d, Nat.zero_le, Nat.reduceAdd, Nat.reduceLeDiff, true_and, and_true, ykl_i, ykl_r, ykl_n, ykl_l]
theorem l_21 (hz0 : z0 < 899000) : ∀ m q (U : yU) (t : yT) (i : Nat), n - q ≤ m → yUk U → yCs z0 s0 t n B q U → i ≤ q → yRc (fun r' s' => Ga (d + 16) 21 22 [some (.ref 31), some (.int (yI i))] [] (yemb t) r' s') z0 s0 t n B (yrl n B m q U) := by
  have fin : ∀ q (U : yU) (t : yT) (i : Nat), yCs z0 s0 t n B q U → i ≤ q → n ≤ q → yRc (fun r' s' => Ga (d + 16) 21 22 [some (.ref 31), some (.int (yI i))] [] (yemb t) r' s') z0 s0 t n B (.inr (q, U)) := by
    intro q U t i C hi hn
    have g86 := m_86 (d := d + 13) C.1
    rw [if_pos hn, if_pos hn] at g86
    have g83 := m_83 (d := d + 15) C.1
    rw [yb_dec hn] at g83
    have c10 : ¬ (1 : Int32) = 0 := by decide
    refine ⟨t, fun Q => ?_, C, yKc_rfl⟩
    rw [s_21_22]
    by_cases h6 : (600 : Int32) ≤ yI i
    · simp only [s_21_0, s_21_1, s_21_2, s_21_3, s_21_4, s_21_5, s_21_6, s_21_7, s_21_8, s_21_9, s_21_10, s_21_11, s_21_12, s_21_13, s_21_14, s_21_15, s_21_16, s_21_17, s_21_18, s_21_19, s_21_20, s_21_21, s_21_23, s_21_24, s_21_25, s_21_26, s_21_27, s_21_28, s_21_29, s_21_30, s_21_31, s_21_32, s_21_33, s_21_34, s_21_35, s_21_36, s_21_37, s_21_38, s_21_39, s_21_40, s_21_41, s_21_42, s_21_43, s_21_44, yO_31, yO_1, h6, if_true, g86, ybo_1, Gk_v, Gk_n, xcat_nil, xcat_i, xcat_r, xcat_l, xcat_d, Nat.zero_le, Nat.reduceAdd, Nat.reduceLeDiff, true_and, and_true, ykl_i, ykl_r, ykl_n, ykl_l]
    · simp only [s_21_0, s_21_1, s_21_2, s_21_3, s_21_4, s_21_5, s_21_6, s_21_7, s_21_8, s_21_9, s_21_10, s_21_11, s_21_12, s_21_13, s_21_14, s_21_15, s_21_16, s_21_17, s_21_18, s_21_19, s_21_20, s_21_21, s_21_23, s_21_24, s_21_25, s_21_26, s_21_27, s_21_28, s_21_29, s_21_30, s_21_31, s_21_32, s_21_33, s_21_34, s_21_35, s_21_36, s_21_37, s_21_38, s_21_39, s_21_40, s_21_41, s_21_42, s_21_43, s_21_44, yO_31, yO_1, h6, if_false, g83, c10, ne_eq, not_false_eq_true, if_true, g86, ybo_1, Gk_v, Gk_n, xcat_nil, xcat_i, xcat_r, xcat_l, xcat_d, Nat.zero_le, Nat.reduceAdd, Nat.reduceLeDiff, true_and, and_true, ykl_i, ykl_r, ykl_n, ykl_l]
  intro m
  induction m with
  | zero =>
    intro q U t i hm K C hi
    exact fin q U t i C hi (by omega)
  | succ m ih =>
    intro q U t i hm K C hi
    have h600 := C.1.1.1
    have hqn := C.1.2.1
    rw [yrl]
    by_cases hn : n ≤ q
    · rw [if_pos hn]
      exact fin q U t i C hi hn
    · rw [if_neg hn]
      have h6 : ¬ (600 : Int32) ≤ yI i := fun h' => absurd ((yI_le (n := 600) (by decide) (by omega)).mp h') (by omega)
      have h7 : yI i + 1 = yI (i + 1) := yI_add
      have g83 := m_83 (d := d + 15) C.1
      rw [yb_dec0 hn] at g83
      have c10 : ¬ (1 : Int32) = 0 := by decide
      have H := m_23 (d := d) hz0 K C
      unfold yrst'
      rcases hr : yrst n B q U with ⟨c, a⟩ | ⟨q1, U1⟩
      · rw [hr] at H
        obtain ⟨u, hu, x8, x9, x10, x11⟩ := H
        refine ⟨u, fun Q => ?_, x8, x9, x10, x11⟩
        rw [s_21_22]
        simp only [s_21_0, s_21_1, s_21_2, s_21_3, s_21_4, s_21_5, s_21_6, s_21_7, s_21_8, s_21_9, s_21_10, s_21_11, s_21_12, s_21_13, s_21_14, s_21_15, s_21_16, s_21_17, s_21_18, s_21_19, s_21_20, s_21_21, s_21_23, s_21_24, s_21_25, s_21_26, s_21_27, s_21_28, s_21_29, s_21_30, s_21_31, s_21_32, s_21_33, s_21_34, s_21_35, s_21_36, s_21_37, s_21_38, s_21_39, s_21_40, s_21_41, s_21_42, s_21_43, s_21_44, yO_31, yO_1, h6, if_false, g83, ne_eq, not_true_eq_false, hu, if_true, ybo_0, Gk_v, Gk_n, xcat_nil, xcat_i, xcat_r, xcat_l, xcat_d, Nat.zero_le, Nat.reduceAdd, Nat.reduceLeDiff, true_and, and_true, ykl_i, ykl_r, ykl_n, ykl_l]
      · have hok := yrst_ok h600 K hqn hr
        rw [hr] at H
        obtain ⟨u, hu, C1, K1⟩ := H
        show yRc _ z0 s0 t n B (yqthen (yrend n B q1 U1) (yrl n B m))
        unfold yrend
        cases h59 : yat n B q1 59
        · rw [if_neg (by decide)]
          have g : ∀ Q', Cl (d + 15) 87 [.ref 1, .int 59] (yemb u) Q' ↔ Q' _ _ := m_87f (d := d + 13) C1.1 (c := 59) (by decide) (by decide) (by decide) (of_decide_eq_false h59)
          refine ⟨_, fun Q => ?_, yCs_err C1 K1⟩
          rw [s_21_22]
          simp only [s_21_0, s_21_1, s_21_2, s_21_3, s_21_4, s_21_5, s_21_6, s_21_7, s_21_8, s_21_9, s_21_10, s_21_11, s_21_12, s_21_13, s_21_14, s_21_15, s_21_16, s_21_17, s_21_18, s_21_19, s_21_20, s_21_21, s_21_23, s_21_24, s_21_25, s_21_26, s_21_27, s_21_28, s_21_29, s_21_30, s_21_31, s_21_32, s_21_33, s_21_34, s_21_35, s_21_36, s_21_37, s_21_38, s_21_39, s_21_40, s_21_41, s_21_42, s_21_43, s_21_44, yO_31, yO_1, h6, if_false, g83, ne_eq, not_true_eq_false, hu, c10, g, ybo_0, Gk_v, Gk_n, xcat_nil, xcat_i, xcat_r, xcat_l, xcat_d, Nat.zero_le, Nat.reduceAdd, Nat.reduceLeDiff, true_and, and_true, ykl_i, ykl_r, ykl_n, ykl_l]
        · rw [if_pos rfl]
          obtain ⟨u2, hu2, T2, K2⟩ := m_87t (d := d + 13) C1.1 (c := 59) (by decide) (by decide) (by decide) (of_decide_eq_true h59)
          have hu2' : ∀ Q', Cl (d + 15) 87 [.ref 1, .int 59] (yemb u) Q' ↔ Q' _ _ := hu2
          have hg := yat_go h59
          have C2 := yCs_tk C1 T2 K2.2 (fun a h => h)
          refine yRc_to (yKc_tr K1 (yKc_p K2)) (fun r' s' hg Q => ?_) (ih _ U1 u2 (i + 1) (by omega) hok.1 C2 (by omega))
          have hg' := hg Q
          rw [s_21_22]
          simp only [s_21_0, s_21_1, s_21_2, s_21_3, s_21_4, s_21_5, s_21_6, s_21_7, s_21_8, s_21_9, s_21_10, s_21_11, s_21_12, s_21_13, s_21_14, s_21_15, s_21_16, s_21_17, s_21_18, s_21_19, s_21_20, s_21_21, s_21_23, s_21_24, s_21_25, s_21_26, s_21_27, s_21_28, s_21_29, s_21_30, s_21_31, s_21_32, s_21_33, s_21_34, s_21_35, s_21_36, s_21_37, s_21_38, s_21_39, s_21_40, s_21_41, s_21_42, s_21_43, s_21_44, yO_31, yO_1, h6, if_false, g83, ne_eq, not_true_eq_false, not_false_eq_true, if_true, hu, c10, hu2', h7, Gk_v, Gk_n, xcat_nil, xcat_i, xcat_r, xcat_l, xcat_d, Nat.zero_le, Nat.reduceAdd, Nat.reduceLeDiff, true_and, and_true, ykl_i, ykl_r, ykl_n, ykl_l]
          exact hg'
/-- a whole setup, read by the class -/
theorem m_21 (hz0 : z0 < 899000) (T : yTk t n B (ysk n B 0)) (Z : yZ t) (hz : t.z.1.1 + 1 ≤ z0) (hs : t.z.1.2 ≤ s0) : yRc (fun r' s' => Ra (d + 16) 21 [.ref 31] (yemb t) r' s') z0 s0 t n B (yrset n B) := by
  obtain ⟨w, hw⟩ : ∃ w, w = ((((t.sL 31 3 0).sL 31 4 0).s1 31 5 0).s1 31 6 0).s1 32 2 0 := ⟨_, rfl⟩
  have F0 : yFr (fun a => a = 31 ∨ a = 32) t w := by
    rw [hw]
    exact ((((yFr_sL (P := fun a => a = 31) rfl).trans (yFr_sL (P := fun a => a = 31) rfl) (P'' := fun a => a = 31) (fun a h => h.elim id id)).trans (yFr_s1 (P := fun a => a = 31) rfl) (P'' := fun a => a = 31) (fun a h => h.elim id id)).trans (yFr_s1 (P := fun a => a = 31) rfl) (P'' := fun a => a = 31) (fun a h => h.elim id id)).trans (yFr_s1 (P := fun a => a = 32) rfl) (fun a h => h)
  have C0 : yCp z0 s0 w n B (ysk n B 0) := by
    refine ⟨yTk_ne T F0 (by decide) (by decide), ⟨?_, ?_⟩, ⟨?_, ?_⟩, ⟨by decide, ?_, fun i hi => absurd hi (Nat.not_lt_zero _)⟩, yZ_fr Z F0, ?_, ?_⟩
    · rw [hw, ys1_L, ys1_L, ys1_L, ysL_same, vp_updL_if, if_neg (by decide), ysL_same, vp_updL_same]
    · rw [hw, ys1_L, ys1_L, ys1_L, ysL_same, vp_updL_same]
    · rw [hw, ys1_ne (by decide), ys1_upd, yupd_ne (by decide)]; exact ys1_same
    · rw [hw, ys1_ne (by decide)]; exact ys1_same
    · rw [hw]; exact ys1_same
    · rw [F0.z]; exact hz
    · rw [F0.z]; exact hs
  have K0 : yKc t w := yKc_fr F0 (fun a h => by omega)
  have c10 : ¬ (1 : Int32) = 0 := by decide
  have H := m_22 (d := d + 9) hz0 C0
  have start : ∀ Q, G (d + 16) 21 0 [some (.ref 31), none] [] (yemb t) Q ↔ Cl (d + 15) 22 [.ref 31] (yemb w) (Gk (d + 16) 21 16 [some (.ref 31), none] [] Q) := by
    intro Q
    rw [hw]
    have g66 := fun t' => m_66 (d := d + 15) (t := t')
    simp only [s_21_0, s_21_1, s_21_2, s_21_3, s_21_4, s_21_5, s_21_6, s_21_7, s_21_8, s_21_9, s_21_10, s_21_11, s_21_12, s_21_13, s_21_14, s_21_15, s_21_16, s_21_18, s_21_19, s_21_20, s_21_21, s_21_23, s_21_24, s_21_25, s_21_26, s_21_27, s_21_28, s_21_29, s_21_30, s_21_31, s_21_32, s_21_33, s_21_34, s_21_35, s_21_36, s_21_37, s_21_38, s_21_39, s_21_40, s_21_41, s_21_42, s_21_43, s_21_44, yO_31, yO_32, ybo_0, g66, Gk_v, Gk_n, xcat_nil, xcat_i, xcat_r, xcat_l, xcat_d, Nat.zero_le, Nat.reduceAdd, Nat.reduceLeDiff, true_and, and_true, ykl_i, ykl_r, ykl_n, ykl_l]
  unfold yrset
  rcases hr : yrhd n B with ⟨c, a⟩ | ⟨q1, U1⟩
  · rw [hr] at H
    obtain ⟨u, hu, x8, x9, x10, x11⟩ := H
    refine ⟨u, fun Q => ?_, x8, x9, yKc_x K0 x10, x11⟩
    show G (d + 16) 21 0 [some (.ref 31), none] [] (yemb t) Q ↔ _
    refine (start Q).trans ((hu _).trans ?_)
    simp only [s_21_0, s_21_1, s_21_2, s_21_3, s_21_4, s_21_5, s_21_6, s_21_7, s_21_8, s_21_9, s_21_10, s_21_11, s_21_12, s_21_13, s_21_14, s_21_15, s_21_16, s_21_17, s_21_18, s_21_19, s_21_20, s_21_21, s_21_23, s_21_24, s_21_25, s_21_26, s_21_27, s_21_28, s_21_29, s_21_30, s_21_31, s_21_32, s_21_33, s_21_34, s_21_35, s_21_36, s_21_37, s_21_38, s_21_39, s_21_40, s_21_41, s_21_42, s_21_43, s_21_44, yO_31, ne_eq, not_true_eq_false, if_false, ybo_0, Gk_v, Gk_n, xcat_nil, xcat_i, xcat_r, xcat_l, xcat_d, Nat.zero_le, Nat.reduceAdd, Nat.reduceLeDiff, true_and, and_true, ykl_i, ykl_r, ykl_n, ykl_l]
  · have hok := yrhd_ok hr
    rw [hr] at H
    obtain ⟨u, hu, C1, K1⟩ := H
    have h600 := C1.1.1.1
    refine yRc_to (yKc_tr K0 K1) (fun r' s' hg Q => ?_) (l_21 (d := d) hz0 n q1 U1 u 0 (by omega) hok.1 C1 (Nat.zero_le _))
    have hg' := hg Q
    show G (d + 16) 21 0 [some (.ref 31), none] [] (yemb t) Q ↔ _
    refine (start Q).trans ((hu _).trans ?_)
    simp only [s_21_0, s_21_1, s_21_2, s_21_3, s_21_4, s_21_5, s_21_6, s_21_7, s_21_8, s_21_9, s_21_10, s_21_11, s_21_12, s_21_13, s_21_14, s_21_15, s_21_16, s_21_17, s_21_18, s_21_19, s_21_20, s_21_21, s_21_23, s_21_24, s_21_25, s_21_26, s_21_27, s_21_28, s_21_29, s_21_30, s_21_31, s_21_32, s_21_33, s_21_34, s_21_35, s_21_36, s_21_37, s_21_38, s_21_39, s_21_40, s_21_41, s_21_42, s_21_43, s_21_44, yO_31, c10, ne_eq, not_false_eq_true, if_true, Gk_v, Gk_n, xcat_nil, xcat_i, xcat_r, xcat_l, xcat_d, Nat.zero_le, Nat.reduceAdd, Nat.reduceLeDiff, true_and, and_true, ykl_i, ykl_r, ykl_n, ykl_l]
    exact hg'
end

/-! ===== the class's setups ===== -/
abbrev yPc (a : Nat) : Prop := a = 1 ∨ (19 ≤ a ∧ a ≤ 33)
abbrev yKc (t u : yT) : Prop := (∀ j, (j < 3 ∨ 7 < j) → u.A 1 j = t.A 1 j) ∧ yFg yPc t u
abbrev yKx (t u : yT) : Prop := (∀ j, j < 3 → u.A 1 j = t.A 1 j) ∧ yFg yPc t u
abbrev yZz (z0 s0 : Nat) (t : yT) : Prop := yZ t ∧ (t.z.1.1 ≤ z0 + 1 ∧ t.z.1.2 ≤ s0 + 600)
/-- the token at q stands ready, and the draft and what is told are as U says -/
abbrev yCs (z0 s0 : Nat) (t : yT) (n : Nat) (B : Nat → Nat) (q : Nat) (U : yU) : Prop :=
  yTk t n B q ∧ (yW t 19 U.1 ∧ ((t.L 31 3 = Int64.ofNat U.2.1 ∧ t.L 31 4 = Int64.ofNat (yodd U.1.kd U.1.n)) ∧ ((t.A 31 5 = yb U.2.2.1 ∧ t.A 31 6 = yb U.2.2.2) ∧ ((U.2.2.2 = false → yIt t []) ∧ (yZ t ∧ (t.z.1.1 ≤ z0 + (if U.2.2.2 = true then 1 else 0) ∧ t.z.1.2 ≤ s0 + (if U.2.2.2 = true then 600 else 0)))))))
def yRc (run : xR → xS → Prop) (z0 s0 : Nat) (t : yT) (n : Nat) (B : Nat → Nat) (r : yQs) : Prop := match r with
  | .inr (q', U') => ∃ u, run (.inl (some (.int 1))) (yemb u) ∧ (yCs z0 s0 u n B q' U' ∧ yKc t u)
  | .inl (c, a) => ∃ u, run (.inl (some (.int 0))) (yemb u) ∧ (u.A 1 8 = c ∧ (u.A 1 9 = yI a ∧ (yKx t u ∧ yZz z0 s0 u)))
section
variable {z0 s0 : Nat} {t u v : yT} {n : Nat} {B : Nat → Nat} {q q' : Nat} {U U' : yU}
theorem yKc_tr (h1 : yKc t u) (h2 : yKc u v) : yKc t v := ⟨fun j hj => by rw [h2.1 j hj, h1.1 j hj], h1.2.trans h2.2 (fun a h => h.elim id id)⟩
theorem yKc_x (h1 : yKc t u) (h2 : yKx u v) : yKx t v := ⟨fun j hj => by rw [h2.1 j hj, h1.1 j (by omega)], h1.2.trans h2.2 (fun a h => h.elim id id)⟩
theorem yKc_q (h : yKq t u) : yKc t u := ⟨h.1, (yFg_fr h.2).mono (fun a h => Or.inl h)⟩
theorem yKc_p (h : yKp t u) : yKc t u := ⟨fun j hj => h.1 j (by omega), (yFg_fr h.2).mono (fun a h => Or.inl h)⟩
theorem yKc_fr {P : Nat → Prop} (F : yFr P t u) (hP : ∀ a, P a → 19 ≤ a ∧ a ≤ 33) : yKc t u := ⟨fun j _ => by rw [F.A (fun h => by have := hP 1 h; omega)], (yFg_fr F).mono (fun a h => Or.inr (hP a h))⟩
theorem yKc_s (h : yKs t u) : yKc t u := ⟨h.1, (yFg_fr h.2).mono (fun a h => by omega)⟩
theorem yKx_e (h : yKe t u) : yKx t u := ⟨h.1, (yFg_fr h.2).mono (fun a h => by omega)⟩
theorem yKx_rf {c a : Int32} : yKx t (yrf t c a) := ⟨fun j hj => yrf_j (by omega) (by omega), (yFg_fr yrf_fr).mono (fun a h => Or.inl h)⟩
theorem yRc_to {run1 run2 : xR → xS → Prop} {t0 : yT} {r : yQs} (hK : yKc t0 t) (h : ∀ r' s', run1 r' s' → run2 r' s') (H : yRc run1 z0 s0 t n B r) : yRc run2 z0 s0 t0 n B r := by
  rcases r with ⟨c, a⟩ | ⟨q', U'⟩
  · obtain ⟨u, h1, h2, h3, h4, h5⟩ := H
    exact ⟨u, h _ _ h1, h2, h3, yKc_x hK h4, h5⟩
  · obtain ⟨u, h1, h2, h3⟩ := H
    exact ⟨u, h _ _ h1, h2, yKc_tr hK h3⟩
theorem yCs_zz (C : yCs z0 s0 t n B q U) : yZz z0 s0 t := by
  obtain ⟨-, -, -, -, -, h1, h2, h3⟩ := C
  refine ⟨h1, ?_, ?_⟩
  · split at h2 <;> omega
  · split at h3 <;> omega
theorem yZz_fr {P : Nat → Prop} (Z : yZz z0 s0 t) (F : yFr P t u) : yZz z0 s0 u := ⟨yZ_fr Z.1 F, by rw [F.z]; exact Z.2.1, by rw [F.z]; exact Z.2.2⟩
/-- another token, nothing else -/
theorem yCs_tk {P : Nat → Prop} (C : yCs z0 s0 t n B q U) (T : yTk u n B q') (F : yFr P t u) (hP : ∀ a, P a → a = 1) : yCs z0 s0 u n B q' U := by
  obtain ⟨-, W, ⟨h3, h4⟩, ⟨h5, h6⟩, hI, hZ, hz, hs⟩ := C
  have nP : ∀ a, 2 ≤ a → ¬ P a := fun a h1 h => by have := hP a h; omega
  refine ⟨T, yW_fr W F (fun a g1 g2 => nP a (by omega)), ⟨?_, ?_⟩, ⟨?_, ?_⟩, fun hc => yIt_ne (hI hc) F (nP 32 (by decide)) (nP 33 (by decide)), yZ_fr hZ F, ?_, ?_⟩
  · rw [F.L (nP 31 (by decide))]; exact h3
  · rw [F.L (nP 31 (by decide))]; exact h4
  · rw [F.A (nP 31 (by decide))]; exact h5
  · rw [F.A (nP 31 (by decide))]; exact h6
  · rw [F.z]; exact hz
  · rw [F.z]; exact hs
/-- the token goes by -/
theorem yCs_adv {d : Nat} (C : yCs z0 s0 t n B q U) {i : Nat} (hi : i < 14) (h : yisw n B q i = true) : ∃ u, Ra (d + 1) 80 [.ref 1] (yemb t) (.inl none) (yemb u) ∧ (yCs z0 s0 u n B (ysk n B (q + ywl i)) U ∧ yKc t u) := by
  obtain ⟨u, hu, Tu, Ku⟩ := yTk_adv (d := d) C.1
  rw [yisw_e hi C.1.2.1 h] at Tu
  exact ⟨u, hu, yCs_tk C Tu Ku.2 (fun a h => h), yKc_p Ku⟩
theorem yCs_num {d : Nat} (C : yCs z0 s0 t n B q U) {lo hi : Nat} (hh : hi < 10000) (h : ynum n B q lo hi = true) : ∃ u, Ra (d + 2) 89 [.ref 1, .int (yI lo), .int (yI hi)] (yemb t) (.inl (some (.int (yI (ynv n B q))))) (yemb u) ∧ (yCs z0 s0 u n B (ynq n B q) U ∧ (u.A 1 7 = yI q ∧ yKc t u)) := by
  obtain ⟨u, hu, Tu, h7, Ku⟩ := m_89t (d := d) C.1 hh h
  exact ⟨u, hu, yCs_tk C Tu Ku.2 (fun a h => h), h7, yKc_q Ku⟩
theorem yCs_er (C : yCs z0 s0 t n B q U) {c a : Int32} : (yrf t c a).A 1 8 = c ∧ ((yrf t c a).A 1 9 = a ∧ (yKx t (yrf t c a) ∧ yZz z0 s0 (yrf t c a))) :=
  ⟨yrf_8, yrf_9, yKx_rf, yZz_fr (yCs_zz C) yrf_fr⟩
theorem yCs_err {t0 : yT} (C : yCs z0 s0 t n B q U) (K : yKc t0 t) {c a : Int32} : (yrf t c a).A 1 8 = c ∧ ((yrf t c a).A 1 9 = a ∧ (yKx t0 (yrf t c a) ∧ yZz z0 s0 (yrf t c a))) :=
  ⟨yrf_8, yrf_9, yKc_x K yKx_rf, yZz_fr (yCs_zz C) yrf_fr⟩
/-- the draft changes, nothing else -/
theorem yCs_D {P : Nat → Prop} (C : yCs z0 s0 t n B q U) {D : yD} (W : yW u 19 D) (F : yFr P t u) (hP : ∀ a, P a → 19 ≤ a ∧ a ≤ 28) (hk : yodd D.kd D.n = yodd U.1.kd U.1.n) : yCs z0 s0 u n B q (D, U.2) ∧ yKc t u := by
  obtain ⟨T, -, ⟨h3, h4⟩, ⟨h5, h6⟩, hI, hZ, hz, hs⟩ := C
  have nP : ∀ a, a < 19 ∨ 28 < a → ¬ P a := fun a h1 h => by have := hP a h; omega
  refine ⟨⟨yTk_ne T F (nP 1 (by decide)) (nP 2 (by decide)), W, ⟨?_, ?_⟩, ⟨?_, ?_⟩, fun hc => yIt_ne (hI hc) F (nP 32 (by decide)) (nP 33 (by decide)), yZ_fr hZ F, ?_, ?_⟩, yKc_fr F (fun a h => by have := hP a h; omega)⟩
  · rw [F.L (nP 31 (by decide))]; exact h3
  · rw [F.L (nP 31 (by decide)), h4]
    exact congrArg Int64.ofNat hk.symm
  · rw [F.A (nP 31 (by decide))]; exact h5
  · rw [F.A (nP 31 (by decide))]; exact h6
  · rw [F.z]; exact hz
  · rw [F.z]; exact hs
end
section
variable {d z0 s0 : Nat} {t : yT} {n : Nat} {B : Nat → Nat} {q : Nat} {U : yU}
theorem m_24 (K : yUk U) (C : yCs z0 s0 t n B q U) (hw : yisw n B q 5 = true) : yRc (fun r' s' => Ra (d + 3) 24 [.ref 31] (yemb t) r' s') z0 s0 t n B (yrfeed n B (ysk n B (q + ywl 5)) U) := by
  obtain ⟨u1, hu1, C1, K1⟩ := yCs_adv (d := d + 1) C (by decide) hw
  have hn1 := K.1.n1
  have hn40 := K.1.n40
  have hf6 := K.1.f6
  generalize ysk n B (q + ywl 5) = q1 at *
  have en : yI U.1.n - 1 = yI (U.1.n - 1) := yI_sub1 hn1
  have c10 : ¬ (1 : Int32) = 0 := by decide
  have cm1 : ¬ (0 : Int32) ≤ -1 := by decide
  unfold yrfeed
  cases h1 : ynum n B q1 0 (U.1.n - 1)
  · rw [if_neg (by decide)]
    have g : ∀ Q', Cl (d + 2) 89 [.ref 1, .int 0, .int (yI (U.1.n - 1))] (yemb u1) Q' ↔ Q' _ _ := m_89f (d := d) C1.1 (lo := 0) (by decide) (by omega) h1
    refine ⟨_, fun Q => ?_, yCs_err C1 K1⟩
    show G (d + 3) 24 0 [some (.ref 31), none, none] [] (yemb t) Q ↔ _
    simp only [s_24_0, s_24_1, s_24_2, s_24_3, s_24_4, s_24_5, s_24_6, s_24_7, s_24_8, s_24_9, s_24_10, s_24_11, s_24_12, s_24_13, s_24_14, s_24_15, s_24_16, s_24_17, s_24_18, s_24_19, s_24_20, s_24_21, s_24_22, s_24_23, s_24_24, s_24_25, s_24_26, s_24_27, s_24_28, s_24_29, s_24_30, s_24_31, s_24_32, s_24_33, s_24_34, s_24_35, s_24_36, s_24_37, s_24_38, s_24_39, s_24_40, s_24_41, s_24_42, s_24_43, s_24_44, s_24_45, s_24_46, s_24_47, s_24_48, s_24_49, s_24_50, s_24_50i, s_24_51, s_24_52, s_24_53, s_24_54, s_24_55, s_24_56, s_24_57, s_24_58, s_24_59, s_24_60, s_24_61, s_24_62, s_24_63, yO_31, yO_1, yO_19, hu1, C1.2.1.n, en, g, cm1, if_false, ybo_0, Gk_v, Gk_n, xcat_nil, xcat_i, xcat_r, xcat_l, xcat_d, Nat.zero_le, Nat.reduceAdd, Nat.reduceLeDiff, true_and, and_true, ykl_i, ykl_r, ykl_n, ykl_l]
  · rw [if_pos rfl]
    have hv := ynv_lt h1
    obtain ⟨u2, hu2, C2, h7, K2⟩ := yCs_num (d := d) C1 (lo := 0) (by omega) h1
    have hu2' : ∀ Q', Cl (d + 2) 89 [.ref 1, .int 0, .int (yI (U.1.n - 1))] (yemb u1) Q' ↔ Q' _ _ := hu2
    have K12 := yKc_tr K1 K2
    have hq2 := ynq_go h1
    generalize ynv n B q1 = p at *
    have hp : p < 40 := by omega
    have cp : (0 : Int32) ≤ yI p := Int32.not_lt.mp (yI_nneg (by omega))
    have hfd : U.2.1 < 2 ^ 63 := Nat.lt_trans K.2.1.1 (by decide)
    have g64 : ∀ Q', Cl (d + 2) 64 [.long (u2.L 31 3), .int (yI p)] (yemb u2) Q' ↔ Q' (.inl (some (.int (yb (U.2.1.testBit p))))) (yemb u2) := by
      intro Q'
      rw [m_64, C2.2.2.1.1, yin_nat hfd (by omega)]
    cases h2 : U.2.1.testBit p
    · rw [h2] at g64
      rw [if_neg (by decide)]
      by_cases h3 : ¬ p = 0 ∧ 6 ≤ U.1.f
      · rw [if_pos h3]
        have c1 : ¬ yI p = 0 := fun h => h3.1 ((yI_inj (m := 0) (by omega) (by decide)).mp h)
        have c2 : ¬ yI U.1.f < 6 := fun h => absurd ((yI_lt (m := 6) (by omega) (by decide)).mp h) (by have := h3.2; omega)
        have g := m_91 (d := d + 1) (t := u2) (c := -5)
        rw [h7] at g
        refine ⟨_, fun Q => ?_, yCs_err C2 K12⟩
        show G (d + 3) 24 0 [some (.ref 31), none, none] [] (yemb t) Q ↔ _
        simp only [s_24_0, s_24_1, s_24_2, s_24_3, s_24_4, s_24_5, s_24_6, s_24_7, s_24_8, s_24_9, s_24_10, s_24_11, s_24_12, s_24_13, s_24_14, s_24_15, s_24_16, s_24_17, s_24_18, s_24_19, s_24_20, s_24_21, s_24_22, s_24_23, s_24_24, s_24_25, s_24_26, s_24_27, s_24_28, s_24_29, s_24_30, s_24_31, s_24_32, s_24_33, s_24_34, s_24_35, s_24_36, s_24_37, s_24_38, s_24_39, s_24_40, s_24_41, s_24_42, s_24_43, s_24_44, s_24_45, s_24_46, s_24_47, s_24_48, s_24_49, s_24_50, s_24_50i, s_24_51, s_24_52, s_24_53, s_24_54, s_24_55, s_24_56, s_24_57, s_24_58, s_24_59, s_24_60, s_24_61, s_24_62, s_24_63, yO_31, yO_1, yO_19, hu1, C1.2.1.n, en, hu2', cp, if_true, if_false, g64, ifb, Bool.false_eq_true, c1, C2.2.1.f, c2, g, ybo_0, Gk_v, Gk_n, xcat_nil, xcat_i, xcat_r, xcat_l, xcat_d, Nat.zero_le, Nat.reduceAdd, Nat.reduceLeDiff, true_and, and_true, ykl_i, ykl_r, ykl_n, ykl_l]
      · rw [if_neg h3]
        have hadd : ¬ p = 0 → ynof U.1 p ∧ U.1.f < 6 := fun e => ⟨yfd_no K e h2, by
          have : ¬ 6 ≤ U.1.f := fun h6 => h3 ⟨e, h6⟩
          omega⟩
        have mid : ∀ Q, G (d + 3) 24 0 [some (.ref 31), none, none] [] (yemb t) Q ↔ G (d + 3) 24 39 [some (.ref 31), some (.int (yI p)), none] [] (yemb u2) Q := by
          intro Q
          by_cases e : p = 0
          · have c1 : yI p = 0 := by rw [e]; rfl
            rw [c1] at g64 cp
            simp only [s_24_0, s_24_1, s_24_2, s_24_3, s_24_4, s_24_5, s_24_6, s_24_7, s_24_8, s_24_9, s_24_10, s_24_11, s_24_12, s_24_13, s_24_14, s_24_15, s_24_16, s_24_17, s_24_18, s_24_19, s_24_20, s_24_21, s_24_22, s_24_23, s_24_24, s_24_25, s_24_26, s_24_27, s_24_28, s_24_29, s_24_30, s_24_31, s_24_32, s_24_33, s_24_34, s_24_35, s_24_36, s_24_37, s_24_38, s_24_40, s_24_41, s_24_42, s_24_43, s_24_44, s_24_45, s_24_46, s_24_47, s_24_48, s_24_49, s_24_50, s_24_50i, s_24_51, s_24_52, s_24_53, s_24_54, s_24_55, s_24_56, s_24_57, s_24_58, s_24_59, s_24_60, s_24_61, s_24_62, s_24_63, yO_31, yO_1, yO_19, hu1, C1.2.1.n, en, hu2', cp, if_true, g64, ifb, Bool.false_eq_true, if_false, c1, Gk_v, Gk_n, xcat_nil, xcat_i, xcat_r, xcat_l, xcat_d, Nat.zero_le, Nat.reduceAdd, Nat.reduceLeDiff, true_and, and_true, ykl_i, ykl_r, ykl_n, ykl_l]
          · have c1 : ¬ yI p = 0 := fun h => e ((yI_inj (m := 0) (by omega) (by decide)).mp h)
            have c2 : yI U.1.f < 6 := (yI_lt (m := 6) (by omega) (by decide)).mpr (hadd e).2
            simp only [s_24_0, s_24_1, s_24_2, s_24_3, s_24_4, s_24_5, s_24_6, s_24_7, s_24_8, s_24_9, s_24_10, s_24_11, s_24_12, s_24_13, s_24_14, s_24_15, s_24_16, s_24_17, s_24_18, s_24_19, s_24_20, s_24_21, s_24_22, s_24_23, s_24_24, s_24_25, s_24_26, s_24_27, s_24_28, s_24_29, s_24_30, s_24_31, s_24_32, s_24_33, s_24_34, s_24_35, s_24_36, s_24_37, s_24_38, s_24_40, s_24_41, s_24_42, s_24_43, s_24_44, s_24_45, s_24_46, s_24_47, s_24_48, s_24_49, s_24_50, s_24_50i, s_24_51, s_24_52, s_24_53, s_24_54, s_24_55, s_24_56, s_24_57, s_24_58, s_24_59, s_24_60, s_24_61, s_24_62, s_24_63, yO_31, yO_1, yO_19, hu1, C1.2.1.n, en, hu2', cp, if_true, g64, ifb, Bool.false_eq_true, if_true, if_false, c1, C2.2.1.f, c2, Gk_v, Gk_n, xcat_nil, xcat_i, xcat_r, xcat_l, xcat_d, Nat.zero_le, Nat.reduceAdd, Nat.reduceLeDiff, true_and, and_true, ykl_i, ykl_r, ykl_n, ykl_l]
        cases h4 : ynum n B (ynq n B q1) 0 9999
        · rw [if_neg (by decide)]
          have g : ∀ Q', Cl (d + 2) 89 [.ref 1, .int 0, .int 9999] (yemb u2) Q' ↔ Q' _ _ := m_89f (d := d) C2.1 (lo := 0) (hi := 9999) (by decide) (by decide) h4
          refine ⟨_, fun Q => ?_, yCs_err C2 K12⟩
          show G (d + 3) 24 0 [some (.ref 31), none, none] [] (yemb t) Q ↔ _
          rw [mid Q, s_24_39]
          simp only [s_24_0, s_24_1, s_24_2, s_24_3, s_24_4, s_24_5, s_24_6, s_24_7, s_24_8, s_24_9, s_24_10, s_24_11, s_24_12, s_24_13, s_24_14, s_24_15, s_24_16, s_24_17, s_24_18, s_24_19, s_24_20, s_24_21, s_24_22, s_24_23, s_24_24, s_24_25, s_24_26, s_24_27, s_24_28, s_24_29, s_24_30, s_24_31, s_24_32, s_24_33, s_24_34, s_24_35, s_24_36, s_24_37, s_24_38, s_24_40, s_24_41, s_24_42, s_24_43, s_24_44, s_24_45, s_24_46, s_24_47, s_24_48, s_24_49, s_24_50, s_24_50i, s_24_51, s_24_52, s_24_53, s_24_54, s_24_55, s_24_56, s_24_57, s_24_58, s_24_59, s_24_60, s_24_61, s_24_62, s_24_63, yO_31, yO_1, g, cm1, if_false, ybo_0, Gk_v, Gk_n, xcat_nil, xcat_i, xcat_r, xcat_l, xcat_d, Nat.zero_le, Nat.reduceAdd, Nat.reduceLeDiff, true_and, and_true, ykl_i, ykl_r, ykl_n, ykl_l]
        · rw [if_pos rfl]
          have hv4 := ynv_lt h4
          obtain ⟨u3, hu3, C3, -, K3⟩ := yCs_num (d := d) C2 (lo := 0) (hi := 9999) (by decide) h4
          have hu3' : ∀ Q', Cl (d + 2) 89 [.ref 1, .int 0, .int 9999] (yemb u2) Q' ↔ Q' _ _ := hu3
          generalize ynv n B (ynq n B q1) = l at *
          have cl : (0 : Int32) ≤ yI l := Int32.not_lt.mp (yI_nneg (by omega))
          have eor : Int64.ofNat U.2.1 ||| (1 : Int64) <<< ((yI p).toInt64 &&& 63) = Int64.ofNat (U.2.1 ||| 2 ^ p) := by
            rw [yL_shl (by omega), yL_or]
          have F4 : yFr (fun a => a = 31) u3 (u3.sL 31 3 (Int64.ofNat (U.2.1 ||| 2 ^ p))) := yFr_sL rfl
          have W4 := yW_fr C3.2.1 F4 (fun a _ _ (h : a = 31) => by omega)
          obtain ⟨u5, hu5, W5, F5⟩ := m_41 (d := d + 2) W4 (p := p) (l := l) (by omega) (by omega) hadd
          have F45 := F4.trans F5 (P'' := fun a => a = 31 ∨ a = 19 ∨ a = 27 ∨ a = 28) (fun a h => h.elim (fun h => Or.inl h) (fun h => Or.inr h))
          have hkn : (yaddf U.1 p l).kd = U.1.kd ∧ (yaddf U.1 p l).n = U.1.n := by
            unfold yaddf
            split <;> exact ⟨rfl, rfl⟩
          obtain ⟨T3, -, ⟨x3, x4⟩, ⟨x5, x6⟩, xI, xZ, xz, xs⟩ := C3
          have hL : u5.L 31 = vp_updL (u3.L 31) 3 (Int64.ofNat (U.2.1 ||| 2 ^ p)) := by
            rw [F5.L (by decide)]
            exact ysL_same
          refine ⟨u5, fun Q => ?_, ⟨yTk_ne T3 F45 (by decide) (by decide), W5, ⟨?_, ?_⟩, ⟨?_, ?_⟩, fun hc => yIt_ne (xI hc) F45 (by decide) (by decide), yZ_fr xZ F45, ?_, ?_⟩, yKc_tr (yKc_tr K12 K3) (yKc_fr F45 (fun a h => by omega))⟩
          · show G (d + 3) 24 0 [some (.ref 31), none, none] [] (yemb t) Q ↔ _
            rw [mid Q, s_24_39]
            simp only [s_24_0, s_24_1, s_24_2, s_24_3, s_24_4, s_24_5, s_24_6, s_24_7, s_24_8, s_24_9, s_24_10, s_24_11, s_24_12, s_24_13, s_24_14, s_24_15, s_24_16, s_24_17, s_24_18, s_24_19, s_24_20, s_24_21, s_24_22, s_24_23, s_24_24, s_24_25, s_24_26, s_24_27, s_24_28, s_24_29, s_24_30, s_24_31, s_24_32, s_24_33, s_24_34, s_24_35, s_24_36, s_24_37, s_24_38, s_24_40, s_24_41, s_24_42, s_24_43, s_24_44, s_24_45, s_24_46, s_24_47, s_24_48, s_24_49, s_24_50, s_24_50i, s_24_51, s_24_52, s_24_53, s_24_54, s_24_55, s_24_56, s_24_57, s_24_58, s_24_59, s_24_60, s_24_61, s_24_62, s_24_63, yO_31, yO_1, yO_19, hu3', cl, if_true, x3, eor, hu5, ybo_1, Gk_v, Gk_n, xcat_nil, xcat_i, xcat_r, xcat_l, xcat_d, Nat.zero_le, Nat.reduceAdd, Nat.reduceLeDiff, true_and, and_true, ykl_i, ykl_r, ykl_n, ykl_l]
          · rw [hL, vp_updL_same]
          · rw [hL, vp_updL_if, if_neg (by decide), x4]
            show _ = Int64.ofNat (yodd (yaddf U.1 p l).kd (yaddf U.1 p l).n)
            rw [hkn.1, hkn.2]
          · rw [F5.A (by decide)]; exact x5
          · rw [F5.A (by decide)]; exact x6
          · rw [F45.z]; exact xz
          · rw [F45.z]; exact xs
    · rw [h2] at g64
      rw [if_pos rfl]
      have g := m_91 (d := d + 1) (t := u2) (c := -4)
      rw [h7] at g
      refine ⟨_, fun Q => ?_, yCs_err C2 K12⟩
      show G (d + 3) 24 0 [some (.ref 31), none, none] [] (yemb t) Q ↔ _
      simp only [s_24_0, s_24_1, s_24_2, s_24_3, s_24_4, s_24_5, s_24_6, s_24_7, s_24_8, s_24_9, s_24_10, s_24_11, s_24_12, s_24_13, s_24_14, s_24_15, s_24_16, s_24_17, s_24_18, s_24_19, s_24_20, s_24_21, s_24_22, s_24_23, s_24_24, s_24_25, s_24_26, s_24_27, s_24_28, s_24_29, s_24_30, s_24_31, s_24_32, s_24_33, s_24_34, s_24_35, s_24_36, s_24_37, s_24_38, s_24_39, s_24_40, s_24_41, s_24_42, s_24_43, s_24_44, s_24_45, s_24_46, s_24_47, s_24_48, s_24_49, s_24_50, s_24_50i, s_24_51, s_24_52, s_24_53, s_24_54, s_24_55, s_24_56, s_24_57, s_24_58, s_24_59, s_24_60, s_24_61, s_24_62, s_24_63, yO_31, yO_1, yO_19, hu1, C1.2.1.n, en, hu2', cp, if_true, g64, ifb, g, ybo_0, Gk_v, Gk_n, xcat_nil, xcat_i, xcat_r, xcat_l, xcat_d, Nat.zero_le, Nat.reduceAdd, Nat.reduceLeDiff, true_and, and_true, ykl_i, ykl_r, ykl_n, ykl_l]
end

/-! ===== the model's setups: bad pixels ===== -/
section
variable {d : Nat} {t : yT} {D : yD}
theorem l_144x (M : yM (t.A 163) D) {l0 : Option Value} : ∀ m p, p + m = D.n → Ga (d + 1) 144 4 [l0, some (.ref 163), some (.int (yI (ybad D.kd p))), some (.int (yI p))] [] (yemb t) (.inl (some (.int (yI (ybad D.kd D.n))))) (yemb t) := by
  have hn40 := M.ok.n40
  intro m
  induction m with
  | zero =>
    intro p hp Q
    have e : p = D.n := by omega
    have h1 : yI D.n ≤ yI D.n := Int32.le_refl _
    rw [s_144_4]
    simp only [s_144_0, s_144_1, s_144_2, s_144_3, s_144_5, s_144_6, s_144_7, s_144_8, s_144_9, s_144_10, s_144_11, s_144_12, s_144_13, s_144_14, s_144_15, s_144_16, s_144_17, s_144_18, s_144_19, s_144_20, s_144_21, s_144_22, s_144_23, s_144_24, s_144_25, yA_163, yn_163, yix0, ycl0, M.n, h1, if_true, e, Gk_v, Gk_n, xcat_nil, xcat_i, xcat_r, xcat_l, xcat_d, Nat.zero_le, Nat.reduceAdd, Nat.reduceLeDiff, true_and, and_true, ykl_i, ykl_r, ykl_n, ykl_l]
  | succ m ih =>
    intro p hp Q
    have h1 : ¬ yI D.n ≤ yI p := fun h => absurd ((yI_le (by omega) (by omega)).mp h) (by omega)
    have h2 : yix (yI (8 + 8 * p)) 1540 := yix_I (by omega) (by omega)
    have h3 : (yI (8 + 8 * p)).toNatClampNeg = 8 + 8 * p := yI_clamp (by omega)
    have h4 : yI p + 1 = yI (p + 1) := yI_add
    have h5 : yI (ybad D.kd p) + 1 = yI (ybad D.kd p + 1) := yI_add
    have hk0 : t.A 163 (8 + 8 * p) = D.kd p := M.kd p (by omega)
    have hih := ih (p + 1) (by omega)
    rw [s_144_4]
    by_cases hk : D.kd p = 0
    · have e0 : ybad D.kd (p + 1) = ybad D.kd p := by rw [ybad, if_pos hk, Nat.add_zero]
      rw [e0] at hih
      simp only [s_144_0, s_144_1, s_144_2, s_144_3, s_144_5, s_144_6, s_144_7, s_144_8, s_144_9, s_144_10, s_144_11, s_144_12, s_144_13, s_144_14, s_144_15, s_144_16, s_144_17, s_144_18, s_144_19, s_144_20, s_144_21, s_144_22, s_144_23, s_144_24, s_144_25, yA_163, yn_163, yix0, ycl0, M.n, h1, if_false, m_160, Int32.add_zero, h2, h3, hk0, hk, ne_eq, not_true_eq_false, h4, hih, Gk_v, Gk_n, xcat_nil, xcat_i, xcat_r, xcat_l, xcat_d, Nat.zero_le, Nat.reduceAdd, Nat.reduceLeDiff, true_and, and_true, ykl_i, ykl_r, ykl_n, ykl_l]
    · have e0 : ybad D.kd (p + 1) = ybad D.kd p + 1 := by rw [ybad, if_neg hk]
      rw [e0] at hih
      simp only [s_144_0, s_144_1, s_144_2, s_144_3, s_144_5, s_144_6, s_144_7, s_144_8, s_144_9, s_144_10, s_144_11, s_144_12, s_144_13, s_144_14, s_144_15, s_144_16, s_144_17, s_144_18, s_144_19, s_144_20, s_144_21, s_144_22, s_144_23, s_144_24, s_144_25, yA_163, yn_163, yix0, ycl0, M.n, h1, if_false, if_true, m_160, Int32.add_zero, h2, h3, hk0, hk, ne_eq, not_false_eq_true, h4, h5, hih, Gk_v, Gk_n, xcat_nil, xcat_i, xcat_r, xcat_l, xcat_d, Nat.zero_le, Nat.reduceAdd, Nat.reduceLeDiff, true_and, and_true, ykl_i, ykl_r, ykl_n, ykl_l]
theorem m_144x (M : yM (t.A 163) D) : Ra (d + 1) 144 [.ref 160, .ref 163] (yemb t) (.inl (some (.int (yI (ybad D.kd D.n))))) (yemb t) := by
  intro Q
  show G (d + 1) 144 0 [some (.ref 160), some (.ref 163), none, none] [] (yemb t) Q ↔ _
  simp only [s_144_0, s_144_1, s_144_2, s_144_3, Gk_v, Gk_n, xcat_nil, xcat_i, xcat_r, xcat_l, xcat_d, Nat.zero_le, Nat.reduceAdd, Nat.reduceLeDiff, true_and, and_true, ykl_i, ykl_r, ykl_n, ykl_l]
  exact l_144x M D.n 0 (Nat.zero_add _) Q
end
section
variable {d : Nat} {t : yT} {n : Nat} {B : Nat → Nat} {m q : Nat} {U : yU}
theorem l_145e {w : yT} {s p : Int32} (h5 : ¬ w.A 160 5 = 0) : Ga (d + 5) 145 37 [some (.ref 160), some (.int s), some (.int p), none, none] [] (yemb w) (.inl none) (yemb w) := by
  intro Q
  have g132 := w_132n (d := d + 4) h5
  have g135 := fun (x : Nat) => m_135n (d := d) h5 (s := x)
  have g133 := fun (c a : Int32) => m_133n (d := d + 4) h5 (c := c) (a := a)
  have c1 : ¬ (-1 : Int32) = 3 := by decide
  simp only [s_145_0, s_145_1, s_145_2, s_145_3, s_145_4, s_145_5, s_145_6, s_145_7, s_145_8, s_145_9, s_145_10, s_145_11, s_145_12, s_145_13, s_145_14, s_145_15, s_145_16, s_145_17, s_145_18, s_145_19, s_145_20, s_145_21, s_145_22, s_145_23, s_145_24, s_145_25, s_145_26, s_145_27, s_145_28, s_145_29, s_145_30, s_145_31, s_145_32, s_145_33, s_145_34, s_145_35, s_145_36, s_145_37, s_145_38, s_145_39, s_145_40, s_145_41, s_145_42, s_145_42i, s_145_43, s_145_44, s_145_45, s_145_46, s_145_47, s_145_48, s_145_49, s_145_50, s_145_51, s_145_52, s_145_53, s_145_54, s_145_55, s_145_56, s_145_57, s_145_58, s_145_59, s_145_60, s_145_61, s_145_62, s_145_63, s_145_64, s_145_65, s_145_66, s_145_67, s_145_68, s_145_69, s_145_70, s_145_71, s_145_72, s_145_73, s_145_74, s_145_75, s_145_76, s_145_77, s_145_78, s_145_79, s_145_80, s_145_81, s_145_82, s_145_83, s_145_84, s_145_85, s_145_86, s_145_86i, s_145_87, s_145_88, s_145_89, s_145_90, s_145_91, s_145_92, s_145_93, s_145_94, s_145_95, s_145_96, s_145_97, s_145_98, s_145_99, s_145_100, s_145_101, s_145_102, s_145_103, s_145_104, s_145_105, s_145_106, s_145_107, s_145_108, s_145_109, yO_160, g132, g135, g133, c1, ne_eq, not_true_eq_false, not_false_eq_true, if_true, if_false, Gk_v, Gk_n, xcat_nil, xcat_i, xcat_r, xcat_l, xcat_d, Nat.zero_le, Nat.reduceAdd, Nat.reduceLeDiff, true_and, and_true, ykl_i, ykl_r, ykl_n, ykl_l]
theorem l_145t (K : yUk U) {w : yT} {s : Int32} {p : Nat} {k v : Int32} (M : yMs w n B m U) (hp : p < U.1.n) (hb : ybad U.1.kd U.1.n < 10) (hk : k = 1 ∨ (k = 2 ∨ (k = 3 ∧ ∃ x, (2 ≤ x ∧ x < 10) ∧ v = yI x))) : ∃ u, Ga (d + 5) 145 81 [some (.ref 160), some (.int s), some (.int (yI p)), some (.int k), some (.int v)] [] (yemb w) (.inl none) (yemb u) ∧ (yMs u n B m (ykp U.1 p k v, U.2) ∧ yKn w u) := by
  have hn40 := K.1.n40
  have k0 : ¬ k = 0 := by rcases hk with h | h | ⟨h, -⟩ <;> rw [h] <;> decide
  have g132 := w_132 (d := d + 4) M
  have c10 : ¬ (1 : Int32) = 0 := by decide
  obtain ⟨y1, y2, y3, y4, y5, y6, ⟨y7, y8⟩, y9⟩ := M
  have eor : Int64.ofNat (yodd U.1.kd U.1.n) ||| (1 : Int64) <<< ((yI p).toInt64 &&& 63) = Int64.ofNat (yodd U.1.kd U.1.n ||| 2 ^ p) := by
    rw [yL_shl (by omega), yL_or]
  have i1 : yix (yI (8 + 8 * p)) 1540 := yix_I (by omega) (by omega)
  have c1 : (yI (8 + 8 * p)).toNatClampNeg = 8 + 8 * p := yI_clamp (by omega)
  have e2 : yI (8 + 8 * p) + 2 = yI (8 + 8 * p + 2) := yI_add
  have i2 : yix (yI (8 + 8 * p + 2)) 1540 := yix_I (by omega) (by omega)
  have c2 : (yI (8 + 8 * p + 2)).toNatClampNeg = 8 + 8 * p + 2 := yI_clamp (by omega)
  have W : yDok (ykp U.1 p k v) := yDok_kp K.1 hp (by rcases hk with h | h | ⟨h, -⟩ <;> rw [h] <;> decide) (fun e => by
      rcases hk with h | h | ⟨-, h⟩
      · rw [h] at e; exact absurd e (by decide)
      · rw [h] at e; exact absurd e (by decide)
      · exact h) (fun _ _ => hb)
  have N := yN_kp (p := p) (k := k) (v := v) y6.v (by omega)
  have hA : ((((w.sL 160 21 (Int64.ofNat (yodd U.1.kd U.1.n ||| 2 ^ p))).s1 163 (8 + 8 * p) k).s1 163 (8 + 8 * p + 2) v)).A 163 = upd (upd (w.A 163) (8 + 8 * p + 0) k) (8 + 8 * p + 2) v := by
    rw [ys1_upd, ys1_upd]
    rfl
  refine ⟨((w.sL 160 21 (Int64.ofNat (yodd U.1.kd U.1.n ||| 2 ^ p))).s1 163 (8 + 8 * p) k).s1 163 (8 + 8 * p + 2) v, fun Q => ?_, ⟨?_, y2, ?_, ⟨?_, ?_⟩, ?_, ⟨W, ?_⟩, ⟨?_, ?_⟩, ?_⟩, yKn_tr (yKn_tr yKn_L yKn_3) yKn_3⟩
  · simp only [s_145_0, s_145_1, s_145_2, s_145_3, s_145_4, s_145_5, s_145_6, s_145_7, s_145_8, s_145_9, s_145_10, s_145_11, s_145_12, s_145_13, s_145_14, s_145_15, s_145_16, s_145_17, s_145_18, s_145_19, s_145_20, s_145_21, s_145_22, s_145_23, s_145_24, s_145_25, s_145_26, s_145_27, s_145_28, s_145_29, s_145_30, s_145_31, s_145_32, s_145_33, s_145_34, s_145_35, s_145_36, s_145_37, s_145_38, s_145_39, s_145_40, s_145_41, s_145_42, s_145_42i, s_145_43, s_145_44, s_145_45, s_145_46, s_145_47, s_145_48, s_145_49, s_145_50, s_145_51, s_145_52, s_145_53, s_145_54, s_145_55, s_145_56, s_145_57, s_145_58, s_145_59, s_145_60, s_145_61, s_145_62, s_145_63, s_145_64, s_145_65, s_145_66, s_145_67, s_145_68, s_145_69, s_145_70, s_145_71, s_145_72, s_145_73, s_145_74, s_145_75, s_145_76, s_145_77, s_145_78, s_145_79, s_145_80, s_145_81, s_145_82, s_145_83, s_145_84, s_145_85, s_145_86, s_145_86i, s_145_87, s_145_88, s_145_89, s_145_90, s_145_91, s_145_92, s_145_93, s_145_94, s_145_95, s_145_96, s_145_97, s_145_98, s_145_99, s_145_100, s_145_101, s_145_102, s_145_103, s_145_104, s_145_105, s_145_106, s_145_107, s_145_108, s_145_109, yO_160, yA_163, yn_163, g132, c10, ne_eq, not_false_eq_true, if_true, y8, eor, m_160, Int32.add_zero, i1, c1, e2, i2, c2, Gk_v, Gk_n, xcat_nil, xcat_i, xcat_r, xcat_l, xcat_d, Nat.zero_le, Nat.reduceAdd, Nat.reduceLeDiff, true_and, and_true, ykl_i, ykl_r, ykl_n, ykl_l]
  · refine ⟨y1.1, ?_, fun i hi => ?_⟩
    · rw [ys1_ne (by decide), ys1_ne (by decide)]; exact y1.2.1
    · rw [ys1_ne (by decide), ys1_ne (by decide)]; exact y1.2.2 i hi
  · rw [ys1_ne (by decide), ys1_ne (by decide)]; exact y3
  · rw [ys1_ne (by decide), ys1_ne (by decide)]; exact y4.1
  · rw [ys1_ne (by decide), ys1_ne (by decide)]; exact y4.2
  · rw [ys1_ne (by decide), ys1_ne (by decide)]; exact y5
  · rw [hA]; exact N
  · rw [ys1_L, ys1_L, ysL_same, vp_updL_if, if_neg (by decide)]; exact y7
  · rw [ys1_L, ys1_L, ysL_same, vp_updL_same]
    show _ = Int64.ofNat (yodd (upd U.1.kd p k) U.1.n)
    rw [yodd_upd hp k0]
  · rw [ys1_ne (by decide), ys1_ne (by decide)]; exact y9
/-- a kind is read -/
theorem l_145k (K : yUk U) {s : Int32} {p : Nat} (M : yMs t n B m U) (hp : p < U.1.n) (hb : ybad U.1.kd U.1.n < 10) : yRm (fun u => Ga (d + 5) 145 37 [some (.ref 160), some (.int s), some (.int (yI p)), none, none] [] (yemb t) (.inl none) (yemb u)) t n B (yrkind n B (ysk n B m) U p) := by
  have g132 := w_132 (d := d + 4) M
  have c10 : ¬ (1 : Int32) = 0 := by decide
  have hid := ysk_idem (n := n) (B := B) M.2.1
  obtain ⟨u1, hu1, M1, K1⟩ := w_131 (d := d + 3) M
  have hs := ysk_le (n := n) (B := B) M.2.1
  generalize ysk n B m = q at *
  have w4 := w_135 (d := d) M1 (i := 4) (by decide)
  rw [hid] at w4
  obtain ⟨u2, hu2, M2, K2⟩ := w4
  have hu2' : ∀ Q', Cl (d + 4) 135 [.ref 160, .ref 1000104] (yemb u1) Q' ↔ Q' _ (yemb u2) := hu2
  have K12 := yKn_tr K1 K2
  unfold yrkind
  cases h4 : yisw n B q 4
  · rw [h4] at hu2'
    rw [h4, if_neg (by decide)] at M2
    rw [if_neg (by decide)]
    have w1 := w_135 (d := d) M2 (i := 1) (by decide)
    rw [hid] at w1
    obtain ⟨u3, hu3, M3, K3⟩ := w1
    have hu3' : ∀ Q', Cl (d + 4) 135 [.ref 160, .ref 1000101] (yemb u2) Q' ↔ Q' _ (yemb u3) := hu3
    have K13 := yKn_tr K12 K3
    cases h1 : yisw n B q 1
    · rw [h1] at hu3'
      rw [h1, if_neg (by decide)] at M3
      rw [if_neg (by decide)]
      have w12 := w_135 (d := d) M3 (i := 12) (by decide)
      rw [hid] at w12
      obtain ⟨u4, hu4, M4, K4⟩ := w12
      have hu4' : ∀ Q', Cl (d + 4) 135 [.ref 160, .ref 1000112] (yemb u3) Q' ↔ Q' _ (yemb u4) := hu4
      have K14 := yKn_tr K13 K4
      cases h12 : yisw n B q 12
      · rw [h12] at hu4'
        rw [h12, if_neg (by decide)] at M4
        rw [if_neg (by decide)]
        have p4 : u4.A 160 4 = yI q := M4.2.2.1
        obtain ⟨u5, hu5, E, K5, -⟩ := w_133 (d := d + 4) M4 (c := -2) (by decide) (a := q)
        have g132n := w_132n (d := d + 4) E.1
        have c1 : ¬ (-1 : Int32) = 3 := by decide
        refine ⟨u5, fun Q => ?_, E, yKn_tr K14 K5⟩
        simp only [s_145_0, s_145_1, s_145_2, s_145_3, s_145_4, s_145_5, s_145_6, s_145_7, s_145_8, s_145_9, s_145_10, s_145_11, s_145_12, s_145_13, s_145_14, s_145_15, s_145_16, s_145_17, s_145_18, s_145_19, s_145_20, s_145_21, s_145_22, s_145_23, s_145_24, s_145_25, s_145_26, s_145_27, s_145_28, s_145_29, s_145_30, s_145_31, s_145_32, s_145_33, s_145_34, s_145_35, s_145_36, s_145_37, s_145_38, s_145_39, s_145_40, s_145_41, s_145_42, s_145_42i, s_145_43, s_145_44, s_145_45, s_145_46, s_145_47, s_145_48, s_145_49, s_145_50, s_145_51, s_145_52, s_145_53, s_145_54, s_145_55, s_145_56, s_145_57, s_145_58, s_145_59, s_145_60, s_145_61, s_145_62, s_145_63, s_145_64, s_145_65, s_145_66, s_145_67, s_145_68, s_145_69, s_145_70, s_145_71, s_145_72, s_145_73, s_145_74, s_145_75, s_145_76, s_145_77, s_145_78, s_145_79, s_145_80, s_145_81, s_145_82, s_145_83, s_145_84, s_145_85, s_145_86, s_145_86i, s_145_87, s_145_88, s_145_89, s_145_90, s_145_91, s_145_92, s_145_93, s_145_94, s_145_95, s_145_96, s_145_97, s_145_98, s_145_99, s_145_100, s_145_101, s_145_102, s_145_103, s_145_104, s_145_105, s_145_106, s_145_107, s_145_108, s_145_109, yO_160, g132, c10, if_false, hu1, hu2', hu3', hu4', ifb, Bool.false_eq_true, p4, hu5, c1, g132n, ne_eq, not_true_eq_false, not_false_eq_true, if_true, Gk_v, Gk_n, xcat_nil, xcat_i, xcat_r, xcat_l, xcat_d, Nat.zero_le, Nat.reduceAdd, Nat.reduceLeDiff, true_and, and_true, ykl_i, ykl_r, ykl_n, ykl_l]
      · rw [h12] at hu4'
        rw [h12, if_pos rfl] at M4
        rw [if_pos rfl]
        have c31 : ¬ (3 : Int32) = -1 := by decide
        generalize q + ywl 12 = m4 at *
        unfold yrstu
        cases h5 : ynum n B (ysk n B m4) 2 9
        · rw [if_neg (by decide)]
          obtain ⟨u5, hu5, E, K5⟩ := w_137f (d := d + 2) M4 (lo := 2) (hi := 9) (by decide) (by decide) h5
          have hu5' : ∀ Q', Cl (d + 4) 137 [.ref 160, .int 2, .int 9] (yemb u4) Q' ↔ Q' (.inl (some (.int 0))) (yemb u5) := hu5
          have g132n := w_132n (d := d + 4) E.1
          refine ⟨u5, fun Q => ?_, E, yKn_tr K14 K5⟩
          simp only [s_145_0, s_145_1, s_145_2, s_145_3, s_145_4, s_145_5, s_145_6, s_145_7, s_145_8, s_145_9, s_145_10, s_145_11, s_145_12, s_145_13, s_145_14, s_145_15, s_145_16, s_145_17, s_145_18, s_145_19, s_145_20, s_145_21, s_145_22, s_145_23, s_145_24, s_145_25, s_145_26, s_145_27, s_145_28, s_145_29, s_145_30, s_145_31, s_145_32, s_145_33, s_145_34, s_145_35, s_145_36, s_145_37, s_145_38, s_145_39, s_145_40, s_145_41, s_145_42, s_145_42i, s_145_43, s_145_44, s_145_45, s_145_46, s_145_47, s_145_48, s_145_49, s_145_50, s_145_51, s_145_52, s_145_53, s_145_54, s_145_55, s_145_56, s_145_57, s_145_58, s_145_59, s_145_60, s_145_61, s_145_62, s_145_63, s_145_64, s_145_65, s_145_66, s_145_67, s_145_68, s_145_69, s_145_70, s_145_71, s_145_72, s_145_73, s_145_74, s_145_75, s_145_76, s_145_77, s_145_78, s_145_79, s_145_80, s_145_81, s_145_82, s_145_83, s_145_84, s_145_85, s_145_86, s_145_86i, s_145_87, s_145_88, s_145_89, s_145_90, s_145_91, s_145_92, s_145_93, s_145_94, s_145_95, s_145_96, s_145_97, s_145_98, s_145_99, s_145_100, s_145_101, s_145_102, s_145_103, s_145_104, s_145_105, s_145_106, s_145_107, s_145_108, s_145_109, yO_160, g132, c10, if_false, hu1, hu2', hu3', hu4', ifb, Bool.false_eq_true, if_true, c31, hu5', g132n, ne_eq, not_true_eq_false, not_false_eq_true, Gk_v, Gk_n, xcat_nil, xcat_i, xcat_r, xcat_l, xcat_d, Nat.zero_le, Nat.reduceAdd, Nat.reduceLeDiff, true_and, and_true, ykl_i, ykl_r, ykl_n, ykl_l]
        · rw [if_pos rfl]
          have hv := ynv_lt h5
          obtain ⟨u5, hu5, M5, -, K5⟩ := w_137 (d := d + 2) M4 (lo := 2) (hi := 9) (by decide) (by decide) h5
          have hu5' : ∀ Q', Cl (d + 4) 137 [.ref 160, .int 2, .int 9] (yemb u4) Q' ↔ Q' _ (yemb u5) := hu5
          obtain ⟨u6, hu6, M6, K6⟩ := l_145t (d := d) K (s := s) M5 hp hb (k := 3) (v := yI (ynv n B (ysk n B m4))) (Or.inr (Or.inr ⟨rfl, _, by omega, rfl⟩))
          refine ⟨u6, _, fun Q => ?_, M6, rfl, yKn_tr (yKn_tr K14 K5) K6⟩
          have hu6' := hu6 Q
          simp only [s_145_0, s_145_1, s_145_2, s_145_3, s_145_4, s_145_5, s_145_6, s_145_7, s_145_8, s_145_9, s_145_10, s_145_11, s_145_12, s_145_13, s_145_14, s_145_15, s_145_16, s_145_17, s_145_18, s_145_19, s_145_20, s_145_21, s_145_22, s_145_23, s_145_24, s_145_25, s_145_26, s_145_27, s_145_28, s_145_29, s_145_30, s_145_31, s_145_32, s_145_33, s_145_34, s_145_35, s_145_36, s_145_37, s_145_38, s_145_39, s_145_40, s_145_41, s_145_42, s_145_42i, s_145_43, s_145_44, s_145_45, s_145_46, s_145_47, s_145_48, s_145_49, s_145_50, s_145_51, s_145_52, s_145_53, s_145_54, s_145_55, s_145_56, s_145_57, s_145_58, s_145_59, s_145_60, s_145_61, s_145_62, s_145_63, s_145_64, s_145_65, s_145_66, s_145_67, s_145_68, s_145_69, s_145_70, s_145_71, s_145_72, s_145_73, s_145_74, s_145_75, s_145_76, s_145_77, s_145_78, s_145_79, s_145_80, s_145_82, s_145_83, s_145_84, s_145_85, s_145_86, s_145_86i, s_145_87, s_145_88, s_145_89, s_145_90, s_145_91, s_145_92, s_145_93, s_145_94, s_145_95, s_145_96, s_145_97, s_145_98, s_145_99, s_145_100, s_145_101, s_145_102, s_145_103, s_145_104, s_145_105, s_145_106, s_145_107, s_145_108, s_145_109, yO_160, g132, c10, if_false, hu1, hu2', hu3', hu4', ifb, Bool.false_eq_true, if_true, c31, hu5', ne_eq, not_true_eq_false, not_false_eq_true, Gk_v, Gk_n, xcat_nil, xcat_i, xcat_r, xcat_l, xcat_d, Nat.zero_le, Nat.reduceAdd, Nat.reduceLeDiff, true_and, and_true, ykl_i, ykl_r, ykl_n, ykl_l]
          exact hu6'
    · rw [h1] at hu3'
      rw [h1, if_pos rfl] at M3
      rw [if_pos rfl]
      obtain ⟨u6, hu6, M6, K6⟩ := l_145t (d := d) K (s := s) M3 hp hb (k := 2) (v := 0) (Or.inr (Or.inl rfl))
      have c1 : ¬ (2 : Int32) = -1 := by decide
      have c2 : ¬ (2 : Int32) = 3 := by decide
      refine ⟨u6, _, fun Q => ?_, M6, rfl, yKn_tr K13 K6⟩
      have hu6' := hu6 Q
      simp only [s_145_0, s_145_1, s_145_2, s_145_3, s_145_4, s_145_5, s_145_6, s_145_7, s_145_8, s_145_9, s_145_10, s_145_11, s_145_12, s_145_13, s_145_14, s_145_15, s_145_16, s_145_17, s_145_18, s_145_19, s_145_20, s_145_21, s_145_22, s_145_23, s_145_24, s_145_25, s_145_26, s_145_27, s_145_28, s_145_29, s_145_30, s_145_31, s_145_32, s_145_33, s_145_34, s_145_35, s_145_36, s_145_37, s_145_38, s_145_39, s_145_40, s_145_41, s_145_42, s_145_42i, s_145_43, s_145_44, s_145_45, s_145_46, s_145_47, s_145_48, s_145_49, s_145_50, s_145_51, s_145_52, s_145_53, s_145_54, s_145_55, s_145_56, s_145_57, s_145_58, s_145_59, s_145_60, s_145_61, s_145_62, s_145_63, s_145_64, s_145_65, s_145_66, s_145_67, s_145_68, s_145_69, s_145_70, s_145_71, s_145_72, s_145_73, s_145_74, s_145_75, s_145_76, s_145_77, s_145_78, s_145_79, s_145_80, s_145_82, s_145_83, s_145_84, s_145_85, s_145_86, s_145_86i, s_145_87, s_145_88, s_145_89, s_145_90, s_145_91, s_145_92, s_145_93, s_145_94, s_145_95, s_145_96, s_145_97, s_145_98, s_145_99, s_145_100, s_145_101, s_145_102, s_145_103, s_145_104, s_145_105, s_145_106, s_145_107, s_145_108, s_145_109, yO_160, g132, c10, if_false, hu1, hu2', hu3', ifb, Bool.false_eq_true, if_true, c1, c2, ne_eq, not_true_eq_false, not_false_eq_true, Gk_v, Gk_n, xcat_nil, xcat_i, xcat_r, xcat_l, xcat_d, Nat.zero_le, Nat.reduceAdd, Nat.reduceLeDiff, true_and, and_true, ykl_i, ykl_r, ykl_n, ykl_l]
      exact hu6'
  · rw [h4] at hu2'
    rw [h4, if_pos rfl] at M2
    rw [if_pos rfl]
    obtain ⟨u6, hu6, M6, K6⟩ := l_145t (d := d) K (s := s) M2 hp hb (k := 1) (v := 0) (Or.inl rfl)
    have c1 : ¬ (1 : Int32) = -1 := by decide
    have c2 : ¬ (1 : Int32) = 3 := by decide
    refine ⟨u6, _, fun Q => ?_, M6, rfl, yKn_tr K12 K6⟩
    have hu6' := hu6 Q
    simp only [s_145_0, s_145_1, s_145_2, s_145_3, s_145_4, s_145_5, s_145_6, s_145_7, s_145_8, s_145_9, s_145_10, s_145_11, s_145_12, s_145_13, s_145_14, s_145_15, s_145_16, s_145_17, s_145_18, s_145_19, s_145_20, s_145_21, s_145_22, s_145_23, s_145_24, s_145_25, s_145_26, s_145_27, s_145_28, s_145_29, s_145_30, s_145_31, s_145_32, s_145_33, s_145_34, s_145_35, s_145_36, s_145_37, s_145_38, s_145_39, s_145_40, s_145_41, s_145_42, s_145_42i, s_145_43, s_145_44, s_145_45, s_145_46, s_145_47, s_145_48, s_145_49, s_145_50, s_145_51, s_145_52, s_145_53, s_145_54, s_145_55, s_145_56, s_145_57, s_145_58, s_145_59, s_145_60, s_145_61, s_145_62, s_145_63, s_145_64, s_145_65, s_145_66, s_145_67, s_145_68, s_145_69, s_145_70, s_145_71, s_145_72, s_145_73, s_145_74, s_145_75, s_145_76, s_145_77, s_145_78, s_145_79, s_145_80, s_145_82, s_145_83, s_145_84, s_145_85, s_145_86, s_145_86i, s_145_87, s_145_88, s_145_89, s_145_90, s_145_91, s_145_92, s_145_93, s_145_94, s_145_95, s_145_96, s_145_97, s_145_98, s_145_99, s_145_100, s_145_101, s_145_102, s_145_103, s_145_104, s_145_105, s_145_106, s_145_107, s_145_108, s_145_109, yO_160, g132, c10, if_false, hu1, hu2', ifb, Bool.false_eq_true, if_true, c1, c2, ne_eq, not_true_eq_false, not_false_eq_true, Gk_v, Gk_n, xcat_nil, xcat_i, xcat_r, xcat_l, xcat_d, Nat.zero_le, Nat.reduceAdd, Nat.reduceLeDiff, true_and, and_true, ykl_i, ykl_r, ykl_n, ykl_l]
    exact hu6'
theorem m_145 (K : yUk U) (M : yMs t n B m U) (hm : m = q + ywl 0) : yRm (fun u => Ra (d + 5) 145 [.ref 160, .int (yI q)] (yemb t) (.inl none) (yemb u)) t n B (yrbad n B q U) := by
  have hn1 := K.1.n1
  have hn40 := K.1.n40
  have hbad := K.1.bad
  have en : yI U.1.n - 1 = yI (U.1.n - 1) := yI_sub1 hn1
  have i0 : yix 0 1540 := yix_I (n := 0) (by omega) (by omega)
  have c00 : (0 : Int32).toNatClampNeg = 0 := rfl
  have c10 : ¬ (1 : Int32) = 0 := by decide
  have hM := M.2.2.2.2.2.1
  have g144 := m_144x (d := d + 3) hM
  unfold yrbad
  by_cases h0 : 10 ≤ ybad U.1.kd U.1.n
  · rw [if_pos h0]
    have c1 : yI (ybad U.1.kd U.1.n) = 10 := by rw [show ybad U.1.kd U.1.n = 10 by omega]; rfl
    obtain ⟨u, hu, E, Ku, -, e163, -⟩ := w_133 (d := d + 4) M (c := -5) (by decide) (a := q)
    have hn : u.A 163 0 = yI U.1.n := by rw [e163]; exact hM.n
    have g137 := fun (lo hi : Int32) => m_137n (d := d + 2) E.1 (lo := lo) (hi := hi)
    have g132n := w_132n (d := d + 4) E.1
    have ge := fun (p : Int32) => l_145e (d := d) (s := yI q) (p := p) E.1
    refine ⟨u, fun Q => ?_, E, Ku⟩
    have ge' := ge 0 Q
    show G (d + 5) 145 0 [some (.ref 160), some (.int (yI q)), none, none, none] [] (yemb t) Q ↔ _
    simp only [s_145_0, s_145_1, s_145_2, s_145_3, s_145_4, s_145_5, s_145_6, s_145_7, s_145_8, s_145_9, s_145_10, s_145_11, s_145_12, s_145_13, s_145_14, s_145_15, s_145_16, s_145_17, s_145_18, s_145_19, s_145_20, s_145_21, s_145_22, s_145_23, s_145_24, s_145_25, s_145_26, s_145_27, s_145_28, s_145_29, s_145_30, s_145_31, s_145_32, s_145_33, s_145_34, s_145_35, s_145_36, s_145_38, s_145_39, s_145_40, s_145_41, s_145_42, s_145_42i, s_145_43, s_145_44, s_145_45, s_145_46, s_145_47, s_145_48, s_145_49, s_145_50, s_145_51, s_145_52, s_145_53, s_145_54, s_145_55, s_145_56, s_145_57, s_145_58, s_145_59, s_145_60, s_145_61, s_145_62, s_145_63, s_145_64, s_145_65, s_145_66, s_145_67, s_145_68, s_145_69, s_145_70, s_145_71, s_145_72, s_145_73, s_145_74, s_145_75, s_145_76, s_145_77, s_145_78, s_145_79, s_145_80, s_145_81, s_145_82, s_145_83, s_145_84, s_145_85, s_145_86, s_145_86i, s_145_87, s_145_88, s_145_89, s_145_90, s_145_91, s_145_92, s_145_93, s_145_94, s_145_95, s_145_96, s_145_97, s_145_98, s_145_99, s_145_100, s_145_101, s_145_102, s_145_103, s_145_104, s_145_105, s_145_106, s_145_107, s_145_108, s_145_109, yO_160, yA_163, yn_163, g144, c1, ne_eq, not_true_eq_false, if_false, hu, i0, c00, hn, en, g137, g132n, if_true, Gk_v, Gk_n, xcat_nil, xcat_i, xcat_r, xcat_l, xcat_d, Nat.zero_le, Nat.reduceAdd, Nat.reduceLeDiff, true_and, and_true, ykl_i, ykl_r, ykl_n, ykl_l]
    exact ge'
  · rw [if_neg h0]
    have c1 : ¬ yI (ybad U.1.kd U.1.n) = 10 := fun h => by
      have := (yI_inj (m := 10) (by omega) (by decide)).mp h
      omega
    subst hm
    generalize q + ywl 0 = m at *
    unfold yrbad1
    cases h1 : ynum n B (ysk n B m) 0 (U.1.n - 1)
    · rw [if_neg (by decide)]
      obtain ⟨u, hu, E, Ku⟩ := w_137f (d := d + 2) M (lo := 0) (hi := U.1.n - 1) (by decide) (by omega) h1
      have hu' : ∀ Q', Cl (d + 4) 137 [.ref 160, .int 0, .int (yI (U.1.n - 1))] (yemb t) Q' ↔ Q' (.inl (some (.int 0))) (yemb u) := hu
      have g132n := w_132n (d := d + 4) E.1
      refine ⟨u, fun Q => ?_, E, Ku⟩
      have ge' := l_145e (d := d) (s := yI q) (p := 0) E.1 Q
      show G (d + 5) 145 0 [some (.ref 160), some (.int (yI q)), none, none, none] [] (yemb t) Q ↔ _
      simp only [s_145_0, s_145_1, s_145_2, s_145_3, s_145_4, s_145_5, s_145_6, s_145_7, s_145_8, s_145_9, s_145_10, s_145_11, s_145_12, s_145_13, s_145_14, s_145_15, s_145_16, s_145_17, s_145_18, s_145_19, s_145_20, s_145_21, s_145_22, s_145_23, s_145_24, s_145_25, s_145_26, s_145_27, s_145_28, s_145_29, s_145_30, s_145_31, s_145_32, s_145_33, s_145_34, s_145_35, s_145_36, s_145_38, s_145_39, s_145_40, s_145_41, s_145_42, s_145_42i, s_145_43, s_145_44, s_145_45, s_145_46, s_145_47, s_145_48, s_145_49, s_145_50, s_145_51, s_145_52, s_145_53, s_145_54, s_145_55, s_145_56, s_145_57, s_145_58, s_145_59, s_145_60, s_145_61, s_145_62, s_145_63, s_145_64, s_145_65, s_145_66, s_145_67, s_145_68, s_145_69, s_145_70, s_145_71, s_145_72, s_145_73, s_145_74, s_145_75, s_145_76, s_145_77, s_145_78, s_145_79, s_145_80, s_145_81, s_145_82, s_145_83, s_145_84, s_145_85, s_145_86, s_145_86i, s_145_87, s_145_88, s_145_89, s_145_90, s_145_91, s_145_92, s_145_93, s_145_94, s_145_95, s_145_96, s_145_97, s_145_98, s_145_99, s_145_100, s_145_101, s_145_102, s_145_103, s_145_104, s_145_105, s_145_106, s_145_107, s_145_108, s_145_109, yO_160, yA_163, yn_163, g144, c1, ne_eq, not_false_eq_true, if_true, i0, c00, hM.n, en, hu', g132n, Gk_v, Gk_n, xcat_nil, xcat_i, xcat_r, xcat_l, xcat_d, Nat.zero_le, Nat.reduceAdd, Nat.reduceLeDiff, true_and, and_true, ykl_i, ykl_r, ykl_n, ykl_l]
      exact ge'
    · rw [if_pos rfl]
      have hv := ynv_lt h1
      obtain ⟨u, hu, Mu, h17, Ku⟩ := w_137 (d := d + 2) M (lo := 0) (hi := U.1.n - 1) (by decide) (by omega) h1
      have hu' : ∀ Q', Cl (d + 4) 137 [.ref 160, .int 0, .int (yI (U.1.n - 1))] (yemb t) Q' ↔ Q' _ (yemb u) := hu
      have hq2 : ysk n B (yw ydg B (n - ysk n B m) (ysk n B m)) = ynq n B (ysk n B m) := rfl
      have g132 := w_132 (d := d + 4) Mu
      have hodd : yodd U.1.kd U.1.n < 2 ^ 40 := Nat.lt_of_lt_of_le (yodd_lt _) (Nat.pow_le_pow_right (by decide) hn40)
      rw [← hq2]
      generalize ynv n B (ysk n B m) = p at *
      generalize yw ydg B (n - ysk n B m) (ysk n B m) = m1 at *
      generalize ysk n B m = q1 at *
      have hpn : p < U.1.n := by omega
      have hsar := yL_sar (w := yodd U.1.kd U.1.n) (p := p) (Nat.lt_trans hodd (by decide)) (by omega)
      rw [yodd_bit, decide_eq_true hpn, Bool.true_and] at hsar
      have h21 := Mu.2.2.2.2.2.2.1.2
      by_cases h2 : U.1.kd p = 0
      · rw [if_pos h2]
        rw [show (U.1.kd p != 0) = false by rw [h2]; rfl, if_neg (by decide)] at hsar
        refine yRm_to Ku (fun u' h Q => ?_) (l_145k (d := d) K (s := yI q) Mu hpn (by omega))
        have h' := h Q
        show G (d + 5) 145 0 [some (.ref 160), some (.int (yI q)), none, none, none] [] (yemb t) Q ↔ _
        simp only [s_145_0, s_145_1, s_145_2, s_145_3, s_145_4, s_145_5, s_145_6, s_145_7, s_145_8, s_145_9, s_145_10, s_145_11, s_145_12, s_145_13, s_145_14, s_145_15, s_145_16, s_145_17, s_145_18, s_145_19, s_145_20, s_145_21, s_145_22, s_145_23, s_145_24, s_145_25, s_145_26, s_145_27, s_145_28, s_145_29, s_145_30, s_145_31, s_145_32, s_145_33, s_145_34, s_145_35, s_145_36, s_145_38, s_145_39, s_145_40, s_145_41, s_145_42, s_145_42i, s_145_43, s_145_44, s_145_45, s_145_46, s_145_47, s_145_48, s_145_49, s_145_50, s_145_51, s_145_52, s_145_53, s_145_54, s_145_55, s_145_56, s_145_57, s_145_58, s_145_59, s_145_60, s_145_61, s_145_62, s_145_63, s_145_64, s_145_65, s_145_66, s_145_67, s_145_68, s_145_69, s_145_70, s_145_71, s_145_72, s_145_73, s_145_74, s_145_75, s_145_76, s_145_77, s_145_78, s_145_79, s_145_80, s_145_81, s_145_82, s_145_83, s_145_84, s_145_85, s_145_86, s_145_86i, s_145_87, s_145_88, s_145_89, s_145_90, s_145_91, s_145_92, s_145_93, s_145_94, s_145_95, s_145_96, s_145_97, s_145_98, s_145_99, s_145_100, s_145_101, s_145_102, s_145_103, s_145_104, s_145_105, s_145_106, s_145_107, s_145_108, s_145_109, yO_160, yA_163, yn_163, g144, c1, ne_eq, not_false_eq_true, if_true, i0, c00, hM.n, en, hu', g132, c10, if_false, h21, hsar, lg_cmp01, Gk_v, Gk_n, xcat_nil, xcat_i, xcat_r, xcat_l, xcat_d, Nat.zero_le, Nat.reduceAdd, Nat.reduceLeDiff, true_and, and_true, ykl_i, ykl_r, ykl_n, ykl_l]
        exact h'
      · rw [if_neg h2]
        rw [show (U.1.kd p != 0) = true from bne_iff_ne.mpr h2, if_pos rfl] at hsar
        obtain ⟨w, hw, E, Kw, -⟩ := w_133 (d := d + 4) Mu (c := -4) (by decide) (a := q1)
        refine ⟨w, fun Q => ?_, E, yKn_tr Ku Kw⟩
        have ge' := l_145e (d := d) (s := yI q) (p := yI p) E.1 Q
        show G (d + 5) 145 0 [some (.ref 160), some (.int (yI q)), none, none, none] [] (yemb t) Q ↔ _
        simp only [s_145_0, s_145_1, s_145_2, s_145_3, s_145_4, s_145_5, s_145_6, s_145_7, s_145_8, s_145_9, s_145_10, s_145_11, s_145_12, s_145_13, s_145_14, s_145_15, s_145_16, s_145_17, s_145_18, s_145_19, s_145_20, s_145_21, s_145_22, s_145_23, s_145_24, s_145_25, s_145_26, s_145_27, s_145_28, s_145_29, s_145_30, s_145_31, s_145_32, s_145_33, s_145_34, s_145_35, s_145_36, s_145_38, s_145_39, s_145_40, s_145_41, s_145_42, s_145_42i, s_145_43, s_145_44, s_145_45, s_145_46, s_145_47, s_145_48, s_145_49, s_145_50, s_145_51, s_145_52, s_145_53, s_145_54, s_145_55, s_145_56, s_145_57, s_145_58, s_145_59, s_145_60, s_145_61, s_145_62, s_145_63, s_145_64, s_145_65, s_145_66, s_145_67, s_145_68, s_145_69, s_145_70, s_145_71, s_145_72, s_145_73, s_145_74, s_145_75, s_145_76, s_145_77, s_145_78, s_145_79, s_145_80, s_145_81, s_145_82, s_145_83, s_145_84, s_145_85, s_145_86, s_145_86i, s_145_87, s_145_88, s_145_89, s_145_90, s_145_91, s_145_92, s_145_93, s_145_94, s_145_95, s_145_96, s_145_97, s_145_98, s_145_99, s_145_100, s_145_101, s_145_102, s_145_103, s_145_104, s_145_105, s_145_106, s_145_107, s_145_108, s_145_109, yO_160, yA_163, yn_163, g144, c1, ne_eq, not_false_eq_true, if_true, i0, c00, hM.n, en, hu', g132, c10, if_false, h21, hsar, lg_cmp11, not_true_eq_false, h17, hw, Gk_v, Gk_n, xcat_nil, xcat_i, xcat_r, xcat_l, xcat_d, Nat.zero_le, Nat.reduceAdd, Nat.reduceLeDiff, true_and, and_true, ykl_i, ykl_r, ykl_n, ykl_l]
        exact ge'
end

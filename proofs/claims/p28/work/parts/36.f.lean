/-! ===== the dimmer ===== -/
theorem xc_lir {x : Int64} {y : Int32} {z : Nat} : xcat [.long x, .int y, .ref z] ≤ 8 := Nat.le_of_ble_eq_true rfl
theorem xc_iir {x y : Int32} {z : Nat} : xcat [.int x, .int y, .ref z] ≤ 8 := Nat.le_of_ble_eq_true rfl
theorem xc_ir {y : Int32} {z : Nat} : xcat [.int y, .ref z] ≤ 8 := Nat.le_of_ble_eq_true rfl
theorem yI_m1 {n : Nat} (h : 1 ≤ n) : yI n + (-1) = yI (n - 1) := by
  have e : yI n + (-1) = yI n - 1 := by rw [Int32.sub_eq_add_neg]
  rw [e, yI_sub1 h]
theorem ymm {v : Int} (hv : -1000000000000 ≤ v ∧ v ≤ 1000000000000) : (if (if Int64.ofInt v < 1000000 then Int64.ofInt v else 1000000) < -1000000 then (-1000000 : Int64) else (if Int64.ofInt v < 1000000 then Int64.ofInt v else 1000000)) = Int64.ofInt (yclim v) := by
  have e1 : (1000000 : Int64) = Int64.ofInt 1000000 := rfl
  have e2 : (-1000000 : Int64) = Int64.ofInt (-1000000) := rfl
  rw [e2, e1]
  unfold yclim
  by_cases h1 : v < 1000000
  · rw [if_pos ((yJ_lt (by omega) (by omega)).mpr h1), if_neg (show ¬ 1000000 < v by omega)]
    by_cases h2 : v < -1000000
    · rw [if_pos ((yJ_lt (by omega) (by omega)).mpr h2), if_pos h2]
    · rw [if_neg (fun h => h2 ((yJ_lt (by omega) (by omega)).mp h)), if_neg h2]
  · rw [if_neg (fun h => h1 ((yJ_lt (by omega) (by omega)).mp h)), if_neg (fun h => absurd ((yJ_lt (by omega) (by omega)).mp h) (by decide))]
    by_cases h2 : 1000000 < v
    · rw [if_pos h2]
    · rw [if_neg h2, if_neg (by omega)]
      have : v = 1000000 := by omega
      rw [this]
section
variable {d : Nat}
theorem l_223 {a n : Nat} {v : Int32} (ha : yA 0 a) (hn : yn a = n) (hn2 : n < 2147483648) : ∀ m i (t : yT), i + m = n → Ga d 223 5 [some (.ref a), some (.int v), some (.int (yI i)), some (.int (yI n))] [] (yemb t) (.inl none) (yemb (t.sA a (fun j => if i ≤ j ∧ j < n then v else t.A a j))) := by
  intro m
  induction m with
  | zero =>
    intro i t hi Q
    have h1 : yI n ≤ yI i := (yI_le (by omega) (by omega)).mpr (by omega)
    have e : (fun j => if i ≤ j ∧ j < n then v else t.A a j) = t.A a := by
      funext j
      rw [if_neg (by omega)]
    rw [e, ysA_self, s_223_5]
    simp only [s_223_0, s_223_1, s_223_2, s_223_4, s_223_6, s_223_7, s_223_8, s_223_9, s_223_10, s_223_11, s_223_12, s_223_13, s_223_14, h1, if_true]
  | succ m ih =>
    intro i t hi Q
    have h1 : ¬ yI n ≤ yI i := fun h => absurd ((yI_le (by omega) (by omega)).mp h) (by omega)
    have h2 : yix (yI i) (yn a) := by
      rw [hn]
      exact yix_I (by omega) (by omega)
    have h3 : (yI i).toNatClampNeg = i := yI_clamp (by omega)
    have h4 : yI i + 1 = yI (i + 1) := yI_add
    rw [s_223_5]
    simp only [s_223_0, s_223_1, s_223_2, s_223_4, s_223_6, s_223_7, s_223_8, s_223_9, s_223_10, s_223_11, s_223_12, s_223_13, s_223_14, h1, if_false, s_223_11 ha, h2, h3, true_and, ykl_i, h4, ih (i + 1) (t.s1 a i v) (by omega)]
    have e : (t.s1 a i v).sA a (fun j => if i + 1 ≤ j ∧ j < n then v else (t.s1 a i v).A a j) = t.sA a (fun j => if i ≤ j ∧ j < n then v else t.A a j) := by
      show (t.sA a _).sA a _ = _
      rw [ysA_sA]
      congr 1
      funext j
      rw [ys1_upd]
      show (if i + 1 ≤ j ∧ j < n then v else if j = i then v else t.A a j) = _
      by_cases e1 : j = i
      · rw [if_neg (by omega), if_pos e1, if_pos (by omega)]
      · rw [if_neg e1]
        by_cases e2 : i + 1 ≤ j ∧ j < n
        · rw [if_pos e2, if_pos (by omega)]
        · rw [if_neg e2, if_neg (by omega)]
    rw [e]
theorem m_223 {a n : Nat} {v : Int32} (ha : yA 0 a) (hn : yn a = n) (hn2 : n < 2147483648) (t : yT) : Ra d 223 [.ref a, .int v] (yemb t) (.inl none) (yemb (t.sA a (fun j => if j < n then v else t.A a j))) := by
  intro Q
  show G d 223 0 [some (.ref a), some (.int v), none, none] [] (yemb t) Q ↔ _
  simp only [s_223_0, s_223_1, s_223_2, gs_len f_223_3 ha, s_223_4, ykl_i, ykl_n, hn, Nat.reduceAdd]
  have h := l_223 (d := d) (v := v) ha hn hn2 n 0 t (Nat.zero_add _) Q
  simp only [Nat.zero_le, true_and] at h
  exact h
theorem m_1 {r : Nat} {v : Int32} (t : yT) : Ra (d + 1) 1 [.ref 3, .ref r, .int v] (yemb t) (.inl none) (yemb (((t.sR 3 r).s1 3 3 v).sA 4 (fun j => if j < 256 then -1 else t.A 4 j))) := by
  intro Q
  show G (d + 1) 1 0 [some (.ref 3), some (.ref r), some (.int v)] [] (yemb t) Q ↔ _
  have h := fun Q' => m_223 (d := d) (v := -1) yA_4 yn_4 (by decide) ((t.sR 3 r).s1 3 3 v) Q'
  simp only [s_1_0, s_1_1, s_1_2, s_1_3, s_1_4, s_1_5, s_1_6, s_1_7, s_1_8, s_1_9, s_1_10, yO_3, Gk_v, Gk_n, xcat_nil, xcat_i, xcat_r, xcat_l, xcat_d, Nat.zero_le, Nat.reduceAdd, Nat.reduceLeDiff, true_and, and_true, ykl_i, ykl_r, ykl_n, ykl_l, h]
  rfl
/-- the dimmer holds this curve and level -/
abbrev yDm (t : yT) (n : Nat) (g : Nat → Int32) (l : Nat) : Prop := yK t (t.R 3) n g ∧ (t.A 3 3 = yI l ∧ ∀ x, x < 256 → t.A 4 x = -1 ∨ t.A 4 x = yI (ych n g l x))
theorem l_3 {n l x : Nat} {g : Nat → Int32} (hx : x < 256) (hl : l < 256) (hc : yCok n g) (hn0 : n ≠ 0) : ∀ m i (t : yT) l4 l5 l6, i + m = n → yK t (t.R 3) n g → t.A 3 3 = yI l → (∀ k, k < ydep g i → t.A 5 k = Int32.ofInt (yst g x l i k)) → ∃ u, Ga (d + 1) 3 4 [some (.ref 3), some (.int (yI x)), some (.int (yI (ydep g i))), some (.int (yI i)), l4, l5, l6] [] (yemb t) (.inl (some (.int (Int32.ofInt (yst g x l n 0))))) (yemb u) ∧ yFr (fun a => a = 5) t u := by
  have hn6 := hc.1
  intro m
  induction m with
  | zero =>
    intro i t l4 l5 l6 hi hK hlv hw
    have e : i = n := by omega
    subst e
    have hd : ydep g i = 1 := by
      rcases hc.2.1 with h | h
      · exact absurd h hn0
      · exact h
    have h1 : yI i ≤ yI i := (yI_le (by omega) (by omega)).mpr (Nat.le_refl _)
    have h2 : ¬ yI 1 ≤ 0 := fun h => absurd ((yI_le (m := 0) (by omega) (by omega)).mp h) (by omega)
    have h3 : yix 0 16 := yix_I (n := 0) (by omega) (by omega)
    have h4 := hw 0 (by omega)
    refine ⟨t, fun Q => ?_, yFr.rfl'⟩
    rw [s_3_4, hd]
    simp only [s_3_0, s_3_1, s_3_2, s_3_3, s_3_5, s_3_6, s_3_8, s_3_9, s_3_10, s_3_11, s_3_13, s_3_14, s_3_15, s_3_16, s_3_17, s_3_18, s_3_19, s_3_20, s_3_21, s_3_22, s_3_23, s_3_24, s_3_25, s_3_26, s_3_27, s_3_28, s_3_29, s_3_30, s_3_31, s_3_32, s_3_33, s_3_34, s_3_35, s_3_36, s_3_37, s_3_38, s_3_39, s_3_40, s_3_41, s_3_42, s_3_43, s_3_44, s_3_45, s_3_46, s_3_47, s_3_48, s_3_49, s_3_50, s_3_51, s_3_52, s_3_53, s_3_54, s_3_55, s_3_56, s_3_57, s_3_58, s_3_59, s_3_60, s_3_61, s_3_62, s_3_63, s_3_64, s_3_65, s_3_66, s_3_67, s_3_68, s_3_69, s_3_70, s_3_71, s_3_72, s_3_73, s_3_74, s_3_75, s_3_76, s_3_77, s_3_78, yO_3, gs_lenK f_3_7 hK, h1, h2, if_true, if_false, yA_5, yn_5, h3, ycl0, h4, Gk_v, Gk_n, xcat_nil, xcat_i, xcat_r, xcat_l, xcat_d, Nat.zero_le, Nat.reduceAdd, Nat.reduceLeDiff, true_and, and_true, ykl_i, ykl_r, ykl_n, ykl_l]
  | succ m ih =>
    intro i t l4 l5 l6 hi hK hlv hw
    have hin : i < n := by omega
    obtain ⟨⟨hg6, hgt⟩, hd15, hd2⟩ := hc.2.2 i hin
    have hgx : (g i).toInt < 10000 := by
      have := Int32.lt_iff_toInt_lt.mp hgt
      exact this
    have hsx : ysm (x : Int) := by constructor <;> omega
    have hsl : ysm (l : Int) := by constructor <;> omega
    have hsm := yst_sm (x := x) (l := l) hc.2.2 hsx hsl i (by omega)
    have h1 : ¬ yI n ≤ yI i := fun h => absurd ((yI_le (by omega) (by omega)).mp h) (by omega)
    have h2 : yix (yI i) n := yix_I (by omega) (by omega)
    have h3 : (yI i).toNatClampNeg = i := yI_clamp (by omega)
    have h4 : yI i + 1 = yI (i + 1) := yI_add
    by_cases hp : -2 ≤ g i
    · have hp' : ¬ g i < -2 := Int32.not_lt.mpr hp
      have hdep : ydep g (i + 1) = ydep g i + 1 := by
        simp only [ydep, hp, if_true]
      have h5 : ¬ (16 : Int32) ≤ yI (ydep g i) := fun h => absurd ((yI_le (n := 16) (by omega) (by omega)).mp h) (by omega)
      have h6 : yix (yI (ydep g i)) 16 := yix_I (by omega) (by omega)
      have h7 : (yI (ydep g i)).toNatClampNeg = ydep g i := yI_clamp (by omega)
      have h8 : yI (ydep g i) + 1 = yI (ydep g i + 1) := yI_add
      have key : ∀ v, v = Int32.ofInt (yitem (g i) x l) → ∃ u, Ga (d + 1) 3 4 [some (.ref 3), some (.int (yI x)), some (.int (yI (ydep g (i + 1)))), some (.int (yI (i + 1))), some (.int (g i)), l5, l6] [] (yemb (t.s1 5 (ydep g i) v)) (.inl (some (.int (Int32.ofInt (yst g x l n 0))))) (yemb u) ∧ yFr (fun a => a = 5) (t.s1 5 (ydep g i) v) u := by
        intro v hv
        refine ih (i + 1) (t.s1 5 (ydep g i) v) _ _ _ (by omega) hK ?_ ?_
        · rw [ys1_ne (by decide)]
          exact hlv
        · intro k hk
          rw [ys1_upd, yupd_if]
          simp only [yst, hp, if_true]
          by_cases e : k = ydep g i
          · rw [if_pos e, if_pos e, hv]
          · rw [if_neg e, if_neg e]
            exact hw k (by omega)
      by_cases h0 : g i < 0
      · by_cases hm1 : g i = -1
        · obtain ⟨u, hu, Fu⟩ := key (yI x) (by
            unfold yitem
            rw [if_neg (Int32.not_le.mpr h0), if_pos hm1]
            rfl)
          refine ⟨u, fun Q => ?_, (yFr_s1 (P := fun a => a = 5) rfl).trans Fu (fun a h => by omega)⟩
          rw [s_3_4]
          simp only [s_3_0, s_3_1, s_3_2, s_3_3, s_3_5, s_3_6, s_3_8, s_3_9, s_3_10, s_3_11, s_3_13, s_3_14, s_3_15, s_3_16, s_3_17, s_3_18, s_3_19, s_3_20, s_3_21, s_3_22, s_3_23, s_3_24, s_3_25, s_3_26, s_3_27, s_3_28, s_3_29, s_3_30, s_3_31, s_3_32, s_3_33, s_3_34, s_3_35, s_3_36, s_3_37, s_3_38, s_3_39, s_3_40, s_3_41, s_3_42, s_3_43, s_3_44, s_3_45, s_3_46, s_3_47, s_3_48, s_3_49, s_3_50, s_3_51, s_3_52, s_3_53, s_3_54, s_3_55, s_3_56, s_3_57, s_3_58, s_3_59, s_3_60, s_3_61, s_3_62, s_3_63, s_3_64, s_3_65, s_3_66, s_3_67, s_3_68, s_3_69, s_3_70, s_3_71, s_3_72, s_3_73, s_3_74, s_3_75, s_3_76, s_3_77, s_3_78, yO_3, gs_lenK f_3_7 hK, gs_ialdK f_3_12 hK, h1, h2, h3, h5, h6, h7, h8, hp', h0, if_true, if_false, yA_5, yn_5, true_and, hm1, ne_eq, not_true_eq_false, Gk_v, Gk_n, xcat_nil, xcat_i, xcat_r, xcat_l, xcat_d, Nat.zero_le, Nat.reduceAdd, Nat.reduceLeDiff, true_and, and_true, ykl_i, ykl_r, ykl_n, ykl_l, h4]
          rw [hm1, hdep] at hu
          exact hu Q
        · obtain ⟨u, hu, Fu⟩ := key (yI l) (by
            unfold yitem
            rw [if_neg (Int32.not_le.mpr h0), if_neg hm1]
            rfl)
          refine ⟨u, fun Q => ?_, (yFr_s1 (P := fun a => a = 5) rfl).trans Fu (fun a h => by omega)⟩
          rw [s_3_4]
          simp only [s_3_0, s_3_1, s_3_2, s_3_3, s_3_5, s_3_6, s_3_8, s_3_9, s_3_10, s_3_11, s_3_13, s_3_14, s_3_15, s_3_16, s_3_17, s_3_18, s_3_19, s_3_20, s_3_21, s_3_22, s_3_23, s_3_24, s_3_25, s_3_26, s_3_27, s_3_28, s_3_29, s_3_30, s_3_31, s_3_32, s_3_33, s_3_34, s_3_35, s_3_36, s_3_37, s_3_38, s_3_39, s_3_40, s_3_41, s_3_42, s_3_43, s_3_44, s_3_45, s_3_46, s_3_47, s_3_48, s_3_49, s_3_50, s_3_51, s_3_52, s_3_53, s_3_54, s_3_55, s_3_56, s_3_57, s_3_58, s_3_59, s_3_60, s_3_61, s_3_62, s_3_63, s_3_64, s_3_65, s_3_66, s_3_67, s_3_68, s_3_69, s_3_70, s_3_71, s_3_72, s_3_73, s_3_74, s_3_75, s_3_76, s_3_77, s_3_78, yO_3, gs_lenK f_3_7 hK, gs_ialdK f_3_12 hK, h1, h2, h3, h5, h6, h7, h8, hp', h0, hlv, if_true, if_false, yA_5, yn_5, true_and, hm1, ne_eq, not_false_eq_true, Gk_v, Gk_n, xcat_nil, xcat_i, xcat_r, xcat_l, xcat_d, Nat.zero_le, Nat.reduceAdd, Nat.reduceLeDiff, true_and, and_true, ykl_i, ykl_r, ykl_n, ykl_l, h4]
          rw [hdep] at hu
          exact hu Q
      · obtain ⟨u, hu, Fu⟩ := key (g i) (by
          unfold yitem
          rw [if_pos (Int32.not_lt.mp h0)]
          exact yi_of _)
        refine ⟨u, fun Q => ?_, (yFr_s1 (P := fun a => a = 5) rfl).trans Fu (fun a h => by omega)⟩
        rw [s_3_4]
        simp only [s_3_0, s_3_1, s_3_2, s_3_3, s_3_5, s_3_6, s_3_8, s_3_9, s_3_10, s_3_11, s_3_13, s_3_14, s_3_15, s_3_16, s_3_17, s_3_18, s_3_19, s_3_20, s_3_21, s_3_22, s_3_23, s_3_24, s_3_25, s_3_26, s_3_27, s_3_28, s_3_29, s_3_30, s_3_31, s_3_32, s_3_33, s_3_34, s_3_35, s_3_36, s_3_37, s_3_38, s_3_39, s_3_40, s_3_41, s_3_42, s_3_43, s_3_44, s_3_45, s_3_46, s_3_47, s_3_48, s_3_49, s_3_50, s_3_51, s_3_52, s_3_53, s_3_54, s_3_55, s_3_56, s_3_57, s_3_58, s_3_59, s_3_60, s_3_61, s_3_62, s_3_63, s_3_64, s_3_65, s_3_66, s_3_67, s_3_68, s_3_69, s_3_70, s_3_71, s_3_72, s_3_73, s_3_74, s_3_75, s_3_76, s_3_77, s_3_78, yO_3, gs_lenK f_3_7 hK, gs_ialdK f_3_12 hK, h1, h2, h3, h5, h6, h7, h8, hp', h0, if_true, if_false, yA_5, yn_5, true_and, Gk_v, Gk_n, xcat_nil, xcat_i, xcat_r, xcat_l, xcat_d, Nat.zero_le, Nat.reduceAdd, Nat.reduceLeDiff, true_and, and_true, ykl_i, ykl_r, ykl_n, ykl_l, h4]
        rw [hdep] at hu
        exact hu Q
    · have hp' : g i < -2 := Int32.not_le.mp hp
      have hk2 := hd2 hp'
      have hdep : ydep g (i + 1) = ydep g i - 1 := by
        simp only [ydep, hp, if_false]
      have h5 : ¬ yI (ydep g i) < 2 := fun h => absurd ((yI_lt (m := 2) (by omega) (by omega)).mp h) (by omega)
      have h6 : yix (yI (ydep g i - 1)) 16 := yix_I (by omega) (by omega)
      have h7 : (yI (ydep g i - 1)).toNatClampNeg = ydep g i - 1 := yI_clamp (by omega)
      have h8 : yI (ydep g i) + (-1) = yI (ydep g i - 1) := yI_m1 (by omega)
      have h9 : yI (ydep g i - 1) - 1 = yI (ydep g i - 1 - 1) := yI_sub1 (by omega)
      have h10 : yix (yI (ydep g i - 1 - 1)) 16 := yix_I (by omega) (by omega)
      have h11 : (yI (ydep g i - 1 - 1)).toNatClampNeg = ydep g i - 1 - 1 := yI_clamp (by omega)
      have hwa := hw (ydep g i - 1 - 1) (by omega)
      have hwb := hw (ydep g i - 1) (by omega)
      have hsa := hsm (ydep g i - 1 - 1)
      have hsb := hsm (ydep g i - 1)
      have hob := yop_big (c := g i) hsa hsb
      obtain ⟨u, hu, Fu⟩ := ih (i + 1) (t.s1 5 (ydep g i - 1 - 1) (Int32.ofInt (yclim (yop (g i) (yst g x l i (ydep g i - 1 - 1)) (yst g x l i (ydep g i - 1)))))) (some (.int (g i))) (some (.long (Int64.ofInt (yop (g i) (yst g x l i (ydep g i - 1 - 1)) (yst g x l i (ydep g i - 1)))))) none (by omega) hK (by
          rw [ys1_ne (by decide)]
          exact hlv) (by
          intro k hk
          rw [ys1_upd, yupd_if]
          simp only [yst, hp, if_false]
          by_cases e : k = ydep g i - 1 - 1
          · rw [if_pos e, if_pos (show k + 2 = ydep g i by omega), show k + 1 = ydep g i - 1 by omega, e]
          · rw [if_neg e, if_neg (by omega)]
            exact hw k (by omega))
      refine ⟨u, fun Q => ?_, (yFr_s1 (P := fun a => a = 5) rfl).trans Fu (fun a h => by omega)⟩
      rw [s_3_4]
      simp only [s_3_0, s_3_1, s_3_2, s_3_3, s_3_5, s_3_6, s_3_8, s_3_9, s_3_10, s_3_11, s_3_13, s_3_14, s_3_15, s_3_16, s_3_17, s_3_18, s_3_19, s_3_20, s_3_21, s_3_22, s_3_23, s_3_24, s_3_25, s_3_26, s_3_27, s_3_28, s_3_29, s_3_30, s_3_31, s_3_32, s_3_33, s_3_34, s_3_35, s_3_36, s_3_37, s_3_38, s_3_39, s_3_40, s_3_41, s_3_42, s_3_43, s_3_44, s_3_45, s_3_46, s_3_47, s_3_48, s_3_49, s_3_50, s_3_51, s_3_52, s_3_53, s_3_54, s_3_55, s_3_56, s_3_57, s_3_58, s_3_59, s_3_60, s_3_61, s_3_62, s_3_63, s_3_66, s_3_67, s_3_68, s_3_69, s_3_70, s_3_71, s_3_72, s_3_73, s_3_74, s_3_75, s_3_76, s_3_77, s_3_78, s_3_64 xc_lir, s_3_65 xc_ir, yO_3, gs_lenK f_3_7 hK, gs_ialdK f_3_12 hK, h1, h2, h3, h5, h6, h7, h8, h9, h10, h11, hp', if_true, if_false, yA_5, yn_5, true_and, hwa, hwb, yi_J (v := yst g x l i (ydep g i - 1 - 1)) (by omega), yi_J (v := yst g x l i (ydep g i - 1)) (by omega), m_4 hg6 hp' hsa hsb, ymm hob, Int64.toInt32_ofInt, Gk_v, Gk_n, xcat_nil, xcat_i, xcat_r, xcat_l, xcat_d, Nat.zero_le, Nat.reduceAdd, Nat.reduceLeDiff, true_and, and_true, ykl_i, ykl_r, ykl_n, ykl_l, h4]
      rw [hdep] at hu
      exact hu Q
theorem m_3 {n l x : Nat} {g : Nat → Int32} (hx : x < 256) (hl : l < 256) (hc : yCok n g) (hn0 : n ≠ 0) {t : yT} (hK : yK t (t.R 3) n g) (hlv : t.A 3 3 = yI l) : ∃ u, Ra (d + 1) 3 [.ref 3, .int (yI x)] (yemb t) (.inl (some (.int (Int32.ofInt (yst g x l n 0))))) (yemb u) ∧ yFr (fun a => a = 5) t u := by
  obtain ⟨u, hu, Fu⟩ := l_3 (d := d) hx hl hc hn0 n 0 t none none none (Nat.zero_add _) hK hlv (fun k hk => absurd hk (Nat.not_lt_zero _))
  refine ⟨u, fun Q => ?_, Fu⟩
  show G (d + 1) 3 0 [some (.ref 3), some (.int (yI x)), none, none, none, none, none] [] (yemb t) Q ↔ _
  simp only [s_3_0, s_3_1, s_3_2, s_3_3, ykl_i, ykl_n]
  exact hu Q
end
/-! ===== a color that is sent: the class ===== -/
def ycl255 (s : Int) : Nat := if s < 0 then 0 else if 255 < s then 255 else s.toNat
theorem ycl255_eq {s : Int} (hs : ysm s) : (if 0 < (if Int32.ofInt s < 255 then Int32.ofInt s else 255) then (if Int32.ofInt s < 255 then Int32.ofInt s else 255) else (0 : Int32)) = yI (ycl255 s) := by
  have e1 : (255 : Int32) = Int32.ofInt 255 := rfl
  have e0 : (0 : Int32) = Int32.ofInt 0 := rfl
  rw [e1, e0]
  unfold ycl255
  by_cases h1 : s < 255
  · rw [if_pos ((yi_lt (by omega) (by omega)).mpr h1)]
    by_cases h2 : 0 < s
    · rw [if_pos ((yi_lt (by omega) (by omega)).mpr h2), if_neg (by omega), if_neg (by omega), yI_i]
      congr 1
      omega
    · rw [if_neg (fun h => h2 ((yi_lt (by omega) (by omega)).mp h))]
      by_cases h3 : s < 0
      · rw [if_pos h3]
        rfl
      · have : s = 0 := by omega
        subst this
        rfl
  · rw [if_neg (fun h => h1 ((yi_lt (by omega) (by omega)).mp h)), if_pos ((yi_lt (by omega) (by omega)).mpr (by decide)), if_neg (by omega)]
    by_cases h2 : 255 < s
    · rw [if_pos h2]
      rfl
    · rw [if_neg h2]
      have : s = 255 := by omega
      subst this
      rfl
theorem ysh8 {s v : Nat} (hs : s < 8388608) (hv : v < 256) : (yI s <<< ((8 : Int32) &&& 31)) ||| yI v = yI (256 * s + v) := by
  apply Int32.toBitVec_inj.mp
  apply BitVec.eq_of_toNat_eq
  have e8 : ((8 : Int32) &&& 31) = 8 := by decide
  rw [e8, Int32.toBitVec_or, Int32.toBitVec_shiftLeft]
  simp only [BitVec.toNat_or, yI_nat]
  rw [show ((8 : Int32).toBitVec.smod 32) = 8#32 from by decide, BitVec.shiftLeft_eq', BitVec.toNat_shiftLeft]
  simp only [BitVec.toNat_ofNat]
  rw [Nat.mod_eq_of_lt (a := s) (by omega), Nat.mod_eq_of_lt (a := v) (by omega)]
  have h8 : (8 % 2 ^ 32 : Nat) = 8 := by decide
  rw [h8, Nat.shiftLeft_eq, Nat.mod_eq_of_lt (a := s * 2 ^ 8) (by omega), Nat.mod_eq_of_lt (a := 256 * s + v) (by omega)]
  rw [← Nat.shiftLeft_eq s 8, ← Nat.shiftLeft_add_eq_or_of_lt (by omega), Nat.shiftLeft_eq]
  omega
def yb8 (c k : Int32) : Nat := ((c >>> (k &&& 31)) &&& 255).toNatClampNeg
theorem yb8_eq (c k : Int32) : (c >>> (k &&& 31)) &&& 255 = yI (yb8 c k) ∧ yb8 c k < 256 := by
  obtain ⟨m, hm, e⟩ := yand255 (c >>> (k &&& 31))
  have : yb8 c k = m := by
    unfold yb8
    rw [e, yI_clamp (by omega)]
  rw [this]
  exact ⟨e, hm⟩
theorem yb8_0 (c : Int32) : c &&& 255 = yI (yb8 c 0) := by
  have h := (yb8_eq c 0).1
  rwa [show ((0 : Int32) &&& 31) = 0 from by decide, Int32.shiftRight_zero] at h
/-- the color that is sent for one of the frame -/
def ydueC (n : Nat) (g : Nat → Int32) (l : Nat) (c : Int32) : Int32 := yI (65536 * ych n g l (yb8 c 16) + 256 * ych n g l (yb8 c 8) + ych n g l (yb8 c 0))
def ychs (n : Nat) (g : Nat → Int32) (l x : Nat) : Int := if n = 0 then ((x * l / 255 : Nat) : Int) else yst g x l n 0
theorem ych_s {n : Nat} {g : Nat → Int32} {l x : Nat} (hl : l < 256) (hx : x < 256) : ych n g l x = ycl255 (ychs n g l x) := by
  unfold ych ychs ycl255
  by_cases h : n = 0
  · have h1 : x * l ≤ 255 * 255 := Nat.mul_le_mul (by omega) (by omega)
    rw [if_pos h, if_pos h, if_neg (by omega), if_neg (by omega)]
    omega
  · rw [if_neg h, if_neg h]
theorem ychs_sm {n : Nat} {g : Nat → Int32} {l x : Nat} (hc : yCok n g) (hl : l < 256) (hx : x < 256) : ysm (ychs n g l x) := by
  unfold ychs
  split
  · have h1 : x * l ≤ 255 * 255 := Nat.mul_le_mul (by omega) (by omega)
    constructor <;> omega
  · exact yst_sm hc.2.2 (by constructor <;> omega) (by constructor <;> omega) n (Nat.le_refl _) 0
section
variable {d : Nat}
theorem yDm_s1 {t : yT} {n l x : Nat} {g : Nat → Int32} (K : yDm t n g l) : yDm (t.s1 4 x (yI (ych n g l x))) n g l := by
  refine ⟨K.1, ?_, ?_⟩
  · rw [ys1_ne (by decide)]
    exact K.2.1
  · intro y hy
    rw [ys1_upd, yupd_if]
    split
    · rename_i e
      rw [e]
      exact Or.inr rfl
    · exact K.2.2 y hy
theorem yDm_fr {t u : yT} {n l : Nat} {g : Nat → Int32} {P : Nat → Prop} (K : yDm t n g l) (F : yFr P t u) (h3 : ¬ P 3) (h4 : ¬ P 4) : yDm u n g l := by
  refine ⟨⟨by rw [F.R h3]; exact K.1.1, by rw [F.R h3]; exact K.1.2.1, by rw [F.R h3, F.K]; exact K.1.2.2⟩, by rw [F.A h3]; exact K.2.1, by rw [F.A h4]; exact K.2.2⟩
theorem l_2 {n l x : Nat} {g : Nat → Int32} {c b s : Int32} (hc : yCok n g) (hl : l < 256) (hb : ¬ b < 0) (hx : x < 256) (hxe : (c >>> (b &&& 31)) &&& 255 = yI x) {t : yT} (K : yDm t n g l) (l4 l5 : Option Value) : ∃ (u : yT) (l5' : Option Value), Gg (d + 2) 2 4 [some (.ref 3), some (.int c), some (.int s), some (.int b), l4, l5] [] (yemb t) 4 [some (.ref 3), some (.int c), some (.int ((s <<< ((8 : Int32) &&& 31)) ||| yI (ych n g l x))), some (.int (b + (-8))), some (.int (yI x)), l5'] [] (yemb u) ∧ (yDm u n g l ∧ yFr (fun a => a = 4 ∨ a = 5) t u) := by
  have h2 : yix (yI x) 256 := yix_I (by omega) (by omega)
  have h3 : (yI x).toNatClampNeg = x := yI_clamp (by omega)
  have hlt := ych_lt (n := n) (g := g) hl hx
  have hne : ¬ yI (ych n g l x) = -1 := by
    intro h
    have := congrArg Int32.toInt h
    rw [yI_toInt (by omega)] at this
    have e : (-1 : Int32).toInt = -1 := rfl
    omega
  have hcl := ycl255_eq (ychs_sm (x := x) hc hl hx)
  rw [← ych_s hl hx] at hcl
  by_cases hk : t.A 4 x = -1
  · by_cases hn : n = 0
    · have hn' : ¬ yI n ≠ 0 := by
        rw [hn]
        exact fun h => h rfl
      have hd : yI x * yI l / 255 = Int32.ofInt (ychs n g l x) := by
        have h1 : x * l ≤ 255 * 255 := Nat.mul_le_mul (by omega) (by omega)
        rw [yI_mul, show (255 : Int32) = yI 255 from rfl, yI_div (by omega) (by omega)]
        unfold ychs
        rw [if_pos hn]
        rfl
      refine ⟨t.s1 4 x (yI (ych n g l x)), some (.int (Int32.ofInt (ychs n g l x))), fun Q => ?_, yDm_s1 K, yFr_s1 (Or.inl rfl)⟩
      rw [s_2_4]
      simp only [s_2_0, s_2_1, s_2_2, s_2_3, s_2_5, s_2_6, s_2_7, s_2_8, s_2_9, s_2_10, s_2_11, s_2_12, s_2_13, s_2_14, s_2_15, s_2_16, s_2_17, s_2_18, s_2_19, s_2_21, s_2_22, s_2_23, s_2_24, s_2_25, s_2_26, s_2_27, s_2_28, s_2_29, s_2_30, s_2_31, s_2_32, s_2_33, s_2_34, s_2_35, s_2_36, s_2_37, s_2_38, s_2_41, s_2_42, s_2_43, s_2_44, s_2_45, s_2_46, s_2_47, s_2_48, s_2_49, s_2_50, s_2_51, s_2_52, s_2_53, s_2_54, s_2_39 xc_iir, s_2_40 xc_ir, yO_3, yA_4, yn_4, gs_lenK f_2_20 K.1, hb, if_false, hxe, h2, h3, hk, ne_eq, not_true_eq_false, hn', K.2.1, hd, hcl, ys1_same, Gk_v, Gk_n, xcat_nil, xcat_i, xcat_r, xcat_l, xcat_d, Nat.zero_le, Nat.reduceAdd, Nat.reduceLeDiff, true_and, and_true, ykl_i, ykl_r, ykl_n, ykl_l, show ¬ (255 : Int32) = 0 from by decide, not_false_eq_true]
    · have hn6 := hc.1
      have hn' : yI n ≠ 0 := fun h => hn ((yI_inj (m := 0) (by omega) (by omega)).mp h)
      obtain ⟨u, hu, Fu⟩ := m_3 (d := d) hx hl hc hn K.1 K.2.1
      have hs : Int32.ofInt (yst g x l n 0) = Int32.ofInt (ychs n g l x) := by
        unfold ychs
        rw [if_neg hn]
      rw [hs] at hu
      have K1 := yDm_fr K Fu (by decide) (by decide)
      refine ⟨u.s1 4 x (yI (ych n g l x)), some (.int (Int32.ofInt (ychs n g l x))), fun Q => ?_, yDm_s1 K1, Fu.trans (yFr_s1 (P := fun a => a = 4) rfl) (fun a h => by omega)⟩
      rw [s_2_4]
      simp only [s_2_0, s_2_1, s_2_2, s_2_3, s_2_5, s_2_6, s_2_7, s_2_8, s_2_9, s_2_10, s_2_11, s_2_12, s_2_13, s_2_14, s_2_15, s_2_16, s_2_17, s_2_18, s_2_19, s_2_21, s_2_22, s_2_23, s_2_24, s_2_25, s_2_26, s_2_27, s_2_28, s_2_29, s_2_30, s_2_31, s_2_32, s_2_33, s_2_34, s_2_35, s_2_36, s_2_37, s_2_38, s_2_41, s_2_42, s_2_43, s_2_44, s_2_45, s_2_46, s_2_47, s_2_48, s_2_49, s_2_50, s_2_51, s_2_52, s_2_53, s_2_54, s_2_39 xc_iir, s_2_40 xc_ir, yO_3, yA_4, yn_4, gs_lenK f_2_20 K.1, hb, if_false, if_true, hxe, h2, h3, hk, ne_eq, not_true_eq_false, hn', not_false_eq_true, hu, hcl, ys1_same, Gk_v, Gk_n, xcat_nil, xcat_i, xcat_r, xcat_l, xcat_d, Nat.zero_le, Nat.reduceAdd, Nat.reduceLeDiff, true_and, and_true, ykl_i, ykl_r, ykl_n, ykl_l]
  · have hk' : t.A 4 x = yI (ych n g l x) := (K.2.2 x hx).resolve_left hk
    refine ⟨t, l5, fun Q => ?_, K, yFr.rfl'⟩
    rw [s_2_4]
    simp only [s_2_0, s_2_1, s_2_2, s_2_3, s_2_5, s_2_6, s_2_7, s_2_8, s_2_9, s_2_10, s_2_11, s_2_12, s_2_13, s_2_14, s_2_15, s_2_16, s_2_17, s_2_18, s_2_19, s_2_21, s_2_22, s_2_23, s_2_24, s_2_25, s_2_26, s_2_27, s_2_28, s_2_29, s_2_30, s_2_31, s_2_32, s_2_33, s_2_34, s_2_35, s_2_36, s_2_37, s_2_38, s_2_39, s_2_40, s_2_41, s_2_42, s_2_43, s_2_44, s_2_45, s_2_46, s_2_47, s_2_48, s_2_49, s_2_50, s_2_51, s_2_52, s_2_53, s_2_54, yO_3, yA_4, yn_4, hb, if_false, if_true, hxe, h2, h3, hk', hne, ne_eq, not_false_eq_true, Gk_v, Gk_n, xcat_nil, xcat_i, xcat_r, xcat_l, xcat_d, Nat.zero_le, Nat.reduceAdd, Nat.reduceLeDiff, true_and, and_true, ykl_i, ykl_r, ykl_n, ykl_l]
theorem m_2 {n l : Nat} {g : Nat → Int32} {c : Int32} (hc : yCok n g) (hl : l < 256) {t : yT} (K : yDm t n g l) : ∃ u, Ra (d + 2) 2 [.ref 3, .int c] (yemb t) (.inl (some (.int (ydueC n g l c)))) (yemb u) ∧ (yDm u n g l ∧ yFr (fun a => a = 4 ∨ a = 5) t u) := by
  have hr := yb8_eq c 16
  have hg := yb8_eq c 8
  have hb := yb8_eq c 0
  obtain ⟨u1, q1, h1, K1, F1⟩ := l_2 (d := d) (s := 0) hc hl (by decide) hr.2 hr.1 K none none
  obtain ⟨u2, q2, h2, K2, F2⟩ := l_2 (d := d) (s := ((0 : Int32) <<< ((8 : Int32) &&& 31)) ||| yI (ych n g l (yb8 c 16))) hc hl (by decide) hg.2 hg.1 K1 (some (.int (yI (yb8 c 16)))) q1
  obtain ⟨u3, q3, h3, K3, F3⟩ := l_2 (d := d) (s := ((((0 : Int32) <<< ((8 : Int32) &&& 31)) ||| yI (ych n g l (yb8 c 16))) <<< ((8 : Int32) &&& 31)) ||| yI (ych n g l (yb8 c 8))) hc hl (by decide) hb.2 hb.1 K2 (some (.int (yI (yb8 c 8)))) q2
  have a1 := ych_lt (n := n) (g := g) hl hr.2
  have a2 := ych_lt (n := n) (g := g) hl hg.2
  have a3 := ych_lt (n := n) (g := g) hl hb.2
  refine ⟨u3, fun Q => ?_, K3, (F1.trans F2 (P'' := fun a => a = 4 ∨ a = 5) (fun a h => by omega)).trans F3 (fun a h => by omega)⟩
  show G (d + 2) 2 0 [some (.ref 3), some (.int c), none, none, none, none] [] (yemb t) Q ↔ _
  simp only [s_2_0, s_2_1, s_2_2, s_2_3, ykl_i, ykl_n]
  rw [h1 Q, show (16 : Int32) + (-8) = 8 from by decide, h2 Q, show (8 : Int32) + (-8) = 0 from by decide, h3 Q, show (0 : Int32) + (-8) = -8 from by decide]
  have e : ((((((0 : Int32) <<< ((8 : Int32) &&& 31)) ||| yI (ych n g l (yb8 c 16))) <<< ((8 : Int32) &&& 31)) ||| yI (ych n g l (yb8 c 8))) <<< ((8 : Int32) &&& 31)) ||| yI (ych n g l (yb8 c 0)) = ydueC n g l c := by
    have h0 : ((0 : Int32) <<< ((8 : Int32) &&& 31)) ||| yI (ych n g l (yb8 c 16)) = yI (256 * 0 + ych n g l (yb8 c 16)) := ysh8 (s := 0) (by omega) a1
    rw [h0, ysh8 (by omega) a2, ysh8 (by omega) a3]
    unfold ydueC
    congr 1
    omega
  rw [e, s_2_4]
  simp only [s_2_0, s_2_1, s_2_2, s_2_3, s_2_5, s_2_6, s_2_7, s_2_8, s_2_9, s_2_10, s_2_11, s_2_12, s_2_13, s_2_14, s_2_15, s_2_16, s_2_17, s_2_18, s_2_19, s_2_21, s_2_22, s_2_23, s_2_24, s_2_25, s_2_26, s_2_27, s_2_28, s_2_29, s_2_30, s_2_31, s_2_32, s_2_33, s_2_34, s_2_35, s_2_36, s_2_37, s_2_38, s_2_39, s_2_40, s_2_41, s_2_42, s_2_43, s_2_44, s_2_45, s_2_46, s_2_47, s_2_48, s_2_49, s_2_50, s_2_51, s_2_52, s_2_53, s_2_54, show (-8 : Int32) < 0 from by decide, if_true]
end

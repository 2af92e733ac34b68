/-! ===== the class's reader: tokens ===== -/
def ydg (b : Nat) : Bool := decide (48 ≤ b ∧ b ≤ 57)
def yle (b : Nat) : Bool := decide (97 ≤ b ∧ b ≤ 122)
def ysp (b : Nat) : Bool := decide (b = 32)
set_option maxRecDepth 30000 in
theorem ysb_dg : ∀ b, b < 256 → ((48 : Int32) ≤ ysb b ∧ ysb b ≤ 57 ↔ ydg b = true) := by decide
set_option maxRecDepth 30000 in
theorem ysb_le : ∀ b, b < 256 → ((97 : Int32) ≤ ysb b ∧ ysb b ≤ 122 ↔ yle b = true) := by decide
set_option maxRecDepth 30000 in
theorem ysb_sp : ∀ b, b < 256 → (ysb b = 32 ↔ ysp b = true) := by decide
theorem ysb_lo : ∀ b, b < 128 → ysb b = yI b := by decide
def yw (P : Nat → Bool) (B : Nat → Nat) : Nat → Nat → Nat
  | 0, i => i
  | m + 1, i => if P (B i) = true then yw P B m (i + 1) else i
theorem yw_le {P : Nat → Bool} {B : Nat → Nat} : ∀ m i, i ≤ yw P B m i ∧ yw P B m i ≤ i + m := by
  intro m
  induction m with
  | zero => intro i; exact ⟨Nat.le_refl _, Nat.le_refl _⟩
  | succ m ih =>
    intro i
    have := ih (i + 1)
    rw [yw]
    split <;> omega
/-- the class's value of a run of digits -/
def yvl (B : Nat → Nat) : Nat → Nat → Nat → Nat
  | 0, _, v => v
  | m + 1, i, v => if ydg (B i) = true then yvl B m (i + 1) (if 1000000 ≤ v then 1000000 else 10 * v + B i - 48) else v
def ytkind (n : Nat) (B : Nat → Nat) (q : Nat) : Nat := if n ≤ q then 0 else if ydg (B q) = true then 1 else if yle (B q) = true then 2 else 3
def yte (n : Nat) (B : Nat → Nat) (q : Nat) : Nat := if n ≤ q then q else if ydg (B q) = true then yw ydg B (n - q) q else if yle (B q) = true then yw yle B (n - q) q else q + 1
abbrev yXt (t : yT) (n : Nat) (B : Nat → Nat) : Prop := n ≤ 600 ∧ (t.A 1 2 = yI n ∧ ∀ i, i < n → B i < 256 ∧ t.A 2 i = ysb (B i))
/-- the token at q stands ready -/
abbrev yTk (t : yT) (n : Nat) (B : Nat → Nat) (q : Nat) : Prop := yXt t n B ∧ (q ≤ n ∧ (t.A 1 4 = yI q ∧ (t.A 1 3 = yI (ytkind n B q) ∧ (t.A 1 5 = yI (yte n B q) ∧ (ytkind n B q = 1 → t.A 1 6 = yI (yvl B (n - q) q 0))))))
section
variable {d : Nat}
theorem m_81 {b : Nat} (hb : b < 256) {σ : xS} : Ra d 81 [.int (ysb b)] σ (.inl (some (.int (yb (ydg b))))) σ := by
  intro Q
  have h := ysb_dg b hb
  show G d 81 0 [some (.int (ysb b))] [] σ Q ↔ _
  by_cases h1 : ysb b < 48
  · have h2 : ydg b = false := by
      cases hd : ydg b
      · rfl
      · exact absurd (h.mpr hd).1 (Int32.not_le.mpr h1)
    simp only [s_81_0, s_81_1, s_81_2, s_81_3, s_81_4, s_81_5, s_81_6, s_81_7, s_81_8, s_81_9, h1, h2, if_true, ybo_0, yb, Bool.false_eq_true, if_false, Gk_v, Gk_n, xcat_nil, xcat_i, xcat_r, xcat_l, xcat_d, Nat.zero_le, Nat.reduceAdd, Nat.reduceLeDiff, true_and, and_true, ykl_i, ykl_r, ykl_n, ykl_l]
  · have h1' := Int32.not_lt.mp h1
    by_cases h3 : (57 : Int32) < ysb b
    · have h2 : ydg b = false := by
        cases hd : ydg b
        · rfl
        · exact absurd (h.mpr hd).2 (Int32.not_le.mpr h3)
      simp only [s_81_0, s_81_1, s_81_2, s_81_3, s_81_4, s_81_5, s_81_6, s_81_7, s_81_8, s_81_9, h1, h2, h3, if_true, ybo_0, yb, Bool.false_eq_true, if_false, Gk_v, Gk_n, xcat_nil, xcat_i, xcat_r, xcat_l, xcat_d, Nat.zero_le, Nat.reduceAdd, Nat.reduceLeDiff, true_and, and_true, ykl_i, ykl_r, ykl_n, ykl_l]
    · have h2 := h.mp ⟨h1', Int32.not_lt.mp h3⟩
      simp only [s_81_0, s_81_1, s_81_2, s_81_3, s_81_4, s_81_5, s_81_6, s_81_7, s_81_8, s_81_9, h1, h2, h3, if_true, if_false, ybo_1, yb, Gk_v, Gk_n, xcat_nil, xcat_i, xcat_r, xcat_l, xcat_d, Nat.zero_le, Nat.reduceAdd, Nat.reduceLeDiff, true_and, and_true, ykl_i, ykl_r, ykl_n, ykl_l]
theorem m_82 {b : Nat} (hb : b < 256) {σ : xS} : Ra d 82 [.int (ysb b)] σ (.inl (some (.int (yb (yle b))))) σ := by
  intro Q
  have h := ysb_le b hb
  show G d 82 0 [some (.int (ysb b))] [] σ Q ↔ _
  by_cases h1 : ysb b < 97
  · have h2 : yle b = false := by
      cases hd : yle b
      · rfl
      · exact absurd (h.mpr hd).1 (Int32.not_le.mpr h1)
    simp only [s_82_0, s_82_1, s_82_2, s_82_3, s_82_4, s_82_5, s_82_6, s_82_7, s_82_8, s_82_9, h1, h2, if_true, ybo_0, yb, Bool.false_eq_true, if_false, Gk_v, Gk_n, xcat_nil, xcat_i, xcat_r, xcat_l, xcat_d, Nat.zero_le, Nat.reduceAdd, Nat.reduceLeDiff, true_and, and_true, ykl_i, ykl_r, ykl_n, ykl_l]
  · have h1' := Int32.not_lt.mp h1
    by_cases h3 : (122 : Int32) < ysb b
    · have h2 : yle b = false := by
        cases hd : yle b
        · rfl
        · exact absurd (h.mpr hd).2 (Int32.not_le.mpr h3)
      simp only [s_82_0, s_82_1, s_82_2, s_82_3, s_82_4, s_82_5, s_82_6, s_82_7, s_82_8, s_82_9, h1, h2, h3, if_true, ybo_0, yb, Bool.false_eq_true, if_false, Gk_v, Gk_n, xcat_nil, xcat_i, xcat_r, xcat_l, xcat_d, Nat.zero_le, Nat.reduceAdd, Nat.reduceLeDiff, true_and, and_true, ykl_i, ykl_r, ykl_n, ykl_l]
    · have h2 := h.mp ⟨h1', Int32.not_lt.mp h3⟩
      simp only [s_82_0, s_82_1, s_82_2, s_82_3, s_82_4, s_82_5, s_82_6, s_82_7, s_82_8, s_82_9, h1, h2, h3, if_true, if_false, ybo_1, yb, Gk_v, Gk_n, xcat_nil, xcat_i, xcat_r, xcat_l, xcat_d, Nat.zero_le, Nat.reduceAdd, Nat.reduceLeDiff, true_and, and_true, ykl_i, ykl_r, ykl_n, ykl_l]
theorem yXt_s1 {t : yT} {n : Nat} {B : Nat → Nat} {j : Nat} {v : Int32} (X : yXt t n B) (hj : j ≠ 2) : yXt (t.s1 1 j v) n B := by
  refine ⟨X.1, ?_, fun i hi => ?_⟩
  · rw [ys1_upd, yupd_ne (Ne.symm hj)]
    exact X.2.1
  · rw [ys1_ne (by decide)]
    exact X.2.2 i hi
theorem l_80a {n : Nat} {B : Nat → Nat} : ∀ m i (t : yT), i + m = n → yXt t n B → t.A 1 4 = yI i → ∃ u, Gg (d + 1) 80 4 [some (.ref 1)] [] (yemb t) 23 [some (.ref 1)] [] (yemb u) ∧ (u.A 1 4 = yI (yw ysp B m i) ∧ ((∀ j, j ≠ 4 → u.A 1 j = t.A 1 j) ∧ yFr (fun a => a = 1) t u)) := by
  intro m
  induction m with
  | zero =>
    intro i t hi X h4
    have h600 := X.1
    have h1 : yI n ≤ yI i := (yI_le (by omega) (by omega)).mpr (by omega)
    refine ⟨t, fun Q => ?_, h4, fun _ _ => rfl, yFr.rfl'⟩
    rw [s_80_4]
    simp only [s_80_0, s_80_1, s_80_2, s_80_3, s_80_5, s_80_6, s_80_7, s_80_8, s_80_9, s_80_10, s_80_11, s_80_12, s_80_13, s_80_14, s_80_15, s_80_16, s_80_17, s_80_17i, s_80_18, s_80_19, s_80_20, s_80_21, s_80_22, s_80_24, s_80_25, s_80_26, s_80_27, s_80_28, s_80_29, s_80_30, s_80_31, s_80_32, s_80_33, s_80_34, s_80_35, s_80_36, s_80_37, s_80_38, s_80_39, s_80_40, s_80_41, s_80_42, s_80_43, s_80_44, s_80_45, s_80_46, s_80_47, s_80_48, s_80_49, s_80_50, s_80_51, s_80_52, s_80_53, s_80_54, s_80_55, s_80_56, s_80_57, s_80_58, s_80_59, s_80_60, s_80_61, s_80_62, s_80_63, s_80_64, s_80_65, s_80_66, s_80_67, s_80_68, s_80_69, s_80_70, s_80_71, s_80_72, s_80_73, s_80_74, s_80_75, s_80_76, s_80_77, s_80_78, s_80_79, s_80_80, s_80_81, s_80_82, s_80_82i, s_80_83, s_80_84, s_80_85, s_80_86, s_80_87, s_80_88, s_80_89, s_80_90, s_80_91, s_80_92, s_80_93, s_80_94, s_80_95, s_80_96, s_80_97, s_80_98, s_80_99, s_80_100, s_80_101, s_80_102, s_80_103, s_80_104, s_80_105, s_80_106, s_80_107, s_80_108, s_80_109, s_80_110, s_80_111, s_80_111i, s_80_112, s_80_113, s_80_114, s_80_115, s_80_116, s_80_117, s_80_118, s_80_119, s_80_120, s_80_121, s_80_121i, s_80_122, s_80_123, s_80_124, s_80_125, s_80_126, yO_1, h4, X.2.1, h1, if_true, Gk_v, Gk_n, xcat_nil, xcat_i, xcat_r, xcat_l, xcat_d, Nat.zero_le, Nat.reduceAdd, Nat.reduceLeDiff, true_and, and_true, ykl_i, ykl_r, ykl_n, ykl_l]
  | succ m ih =>
    intro i t hi X h4
    have h600 := X.1
    have h1 : ¬ yI n ≤ yI i := fun h => absurd ((yI_le (by omega) (by omega)).mp h) (by omega)
    have h2 : yix (yI i) 600 := yix_I (by omega) (by omega)
    have h3 : (yI i).toNatClampNeg = i := yI_clamp (by omega)
    have h5 : yI i + 1 = yI (i + 1) := yI_add
    obtain ⟨hb, hv⟩ := X.2.2 i (by omega)
    have hs := ysb_sp (B i) hb
    rw [yw]
    by_cases hc : ysb (B i) = 32
    · rw [if_pos (hs.mp hc)]
      obtain ⟨u, hu, u4, uj, Fu⟩ := ih (i + 1) (t.s1 1 4 (yI (i + 1))) (by omega) (yXt_s1 X (by decide)) ys1_same
      refine ⟨u, fun Q => ?_, u4, fun j hj => ?_, (yFr_s1 (P := fun a => a = 1) rfl).trans Fu (fun a h => by omega)⟩
      · rw [s_80_4]
        simp only [s_80_0, s_80_1, s_80_2, s_80_3, s_80_5, s_80_6, s_80_7, s_80_8, s_80_9, s_80_10, s_80_11, s_80_12, s_80_13, s_80_14, s_80_15, s_80_16, s_80_17, s_80_17i, s_80_18, s_80_19, s_80_20, s_80_21, s_80_22, s_80_24, s_80_25, s_80_26, s_80_27, s_80_28, s_80_29, s_80_30, s_80_31, s_80_32, s_80_33, s_80_34, s_80_35, s_80_36, s_80_37, s_80_38, s_80_39, s_80_40, s_80_41, s_80_42, s_80_43, s_80_44, s_80_45, s_80_46, s_80_47, s_80_48, s_80_49, s_80_50, s_80_51, s_80_52, s_80_53, s_80_54, s_80_55, s_80_56, s_80_57, s_80_58, s_80_59, s_80_60, s_80_61, s_80_62, s_80_63, s_80_64, s_80_65, s_80_66, s_80_67, s_80_68, s_80_69, s_80_70, s_80_71, s_80_72, s_80_73, s_80_74, s_80_75, s_80_76, s_80_77, s_80_78, s_80_79, s_80_80, s_80_81, s_80_82, s_80_82i, s_80_83, s_80_84, s_80_85, s_80_86, s_80_87, s_80_88, s_80_89, s_80_90, s_80_91, s_80_92, s_80_93, s_80_94, s_80_95, s_80_96, s_80_97, s_80_98, s_80_99, s_80_100, s_80_101, s_80_102, s_80_103, s_80_104, s_80_105, s_80_106, s_80_107, s_80_108, s_80_109, s_80_110, s_80_111, s_80_111i, s_80_112, s_80_113, s_80_114, s_80_115, s_80_116, s_80_117, s_80_118, s_80_119, s_80_120, s_80_121, s_80_121i, s_80_122, s_80_123, s_80_124, s_80_125, s_80_126, yO_1, h4, X.2.1, h1, if_false, yA_2, yn_2, h2, h3, hv, hc, ne_eq, not_true_eq_false, h5, hu, Gk_v, Gk_n, xcat_nil, xcat_i, xcat_r, xcat_l, xcat_d, Nat.zero_le, Nat.reduceAdd, Nat.reduceLeDiff, true_and, and_true, ykl_i, ykl_r, ykl_n, ykl_l]
      · rw [uj j hj, ys1_upd, yupd_ne hj]
    · rw [if_neg (fun h => hc (hs.mpr h))]
      refine ⟨t, fun Q => ?_, h4, fun _ _ => rfl, yFr.rfl'⟩
      rw [s_80_4]
      simp only [s_80_0, s_80_1, s_80_2, s_80_3, s_80_5, s_80_6, s_80_7, s_80_8, s_80_9, s_80_10, s_80_11, s_80_12, s_80_13, s_80_14, s_80_15, s_80_16, s_80_17, s_80_17i, s_80_18, s_80_19, s_80_20, s_80_21, s_80_22, s_80_24, s_80_25, s_80_26, s_80_27, s_80_28, s_80_29, s_80_30, s_80_31, s_80_32, s_80_33, s_80_34, s_80_35, s_80_36, s_80_37, s_80_38, s_80_39, s_80_40, s_80_41, s_80_42, s_80_43, s_80_44, s_80_45, s_80_46, s_80_47, s_80_48, s_80_49, s_80_50, s_80_51, s_80_52, s_80_53, s_80_54, s_80_55, s_80_56, s_80_57, s_80_58, s_80_59, s_80_60, s_80_61, s_80_62, s_80_63, s_80_64, s_80_65, s_80_66, s_80_67, s_80_68, s_80_69, s_80_70, s_80_71, s_80_72, s_80_73, s_80_74, s_80_75, s_80_76, s_80_77, s_80_78, s_80_79, s_80_80, s_80_81, s_80_82, s_80_82i, s_80_83, s_80_84, s_80_85, s_80_86, s_80_87, s_80_88, s_80_89, s_80_90, s_80_91, s_80_92, s_80_93, s_80_94, s_80_95, s_80_96, s_80_97, s_80_98, s_80_99, s_80_100, s_80_101, s_80_102, s_80_103, s_80_104, s_80_105, s_80_106, s_80_107, s_80_108, s_80_109, s_80_110, s_80_111, s_80_111i, s_80_112, s_80_113, s_80_114, s_80_115, s_80_116, s_80_117, s_80_118, s_80_119, s_80_120, s_80_121, s_80_121i, s_80_122, s_80_123, s_80_124, s_80_125, s_80_126, yO_1, h4, X.2.1, h1, if_false, if_true, yA_2, yn_2, h2, h3, hv, hc, ne_eq, not_false_eq_true, Gk_v, Gk_n, xcat_nil, xcat_i, xcat_r, xcat_l, xcat_d, Nat.zero_le, Nat.reduceAdd, Nat.reduceLeDiff, true_and, and_true, ykl_i, ykl_r, ykl_n, ykl_l]
theorem l_80b {n : Nat} {B : Nat → Nat} : ∀ m i v (t : yT), i + m = n → v < 10000000 → yXt t n B → t.A 1 5 = yI i → t.A 1 6 = yI v → ∃ u, Ga (d + 1) 80 49 [some (.ref 1)] [] (yemb t) (.inl none) (yemb u) ∧ (u.A 1 5 = yI (yw ydg B m i) ∧ (u.A 1 6 = yI (yvl B m i v) ∧ ((∀ j, j ≠ 5 → j ≠ 6 → u.A 1 j = t.A 1 j) ∧ yFr (fun a => a = 1) t u))) := by
  intro m
  induction m with
  | zero =>
    intro i v t hi hv X h5 h6
    have h600 := X.1
    have h1 : yI n ≤ yI i := (yI_le (by omega) (by omega)).mpr (by omega)
    refine ⟨t, fun Q => ?_, h5, h6, fun _ _ _ => rfl, yFr.rfl'⟩
    rw [s_80_49]
    simp only [s_80_50, s_80_51, s_80_52, s_80_53, s_80_126, yO_1, h5, X.2.1, h1, if_true, Gk_v, Gk_n, xcat_nil, xcat_i, xcat_r, xcat_l, xcat_d, Nat.zero_le, Nat.reduceAdd, Nat.reduceLeDiff, true_and, and_true, ykl_i, ykl_r, ykl_n, ykl_l]
  | succ m ih =>
    intro i v t hi hv X h5 h6
    have h600 := X.1
    have h1 : ¬ yI n ≤ yI i := fun h => absurd ((yI_le (by omega) (by omega)).mp h) (by omega)
    have h2 : yix (yI i) 600 := yix_I (by omega) (by omega)
    have h3 : (yI i).toNatClampNeg = i := yI_clamp (by omega)
    have h7 : yI i + 1 = yI (i + 1) := yI_add
    obtain ⟨hb, hbv⟩ := X.2.2 i (by omega)
    have g81 := fun (t' : yT) => m_81 (d := d) hb (σ := yemb t')
    rw [yw, yvl]
    cases hc : ydg (B i)
    · refine ⟨t, fun Q => ?_, ?_, ?_, fun _ _ _ => rfl, yFr.rfl'⟩
      · rw [hc] at g81
        rw [s_80_49]
        simp only [s_80_50, s_80_51, s_80_52, s_80_53, s_80_54, s_80_55, s_80_56, s_80_57, s_80_58, s_80_59, s_80_60, s_80_126, yO_1, h5, X.2.1, h1, if_false, if_true, yA_2, yn_2, h2, h3, hbv, g81, ifb, Bool.false_eq_true, Gk_v, Gk_n, xcat_nil, xcat_i, xcat_r, xcat_l, xcat_d, Nat.zero_le, Nat.reduceAdd, Nat.reduceLeDiff, true_and, and_true, ykl_i, ykl_r, ykl_n, ykl_l]
      · rw [if_neg (by decide)]; exact h5
      · rw [if_neg (by decide)]; exact h6
    · rw [if_pos rfl, if_pos rfl]
      have hd : 48 ≤ B i ∧ B i ≤ 57 := of_decide_eq_true hc
      have hlo : ysb (B i) = yI (B i) := ysb_lo _ (by omega)
      generalize hv' : (if 1000000 ≤ v then 1000000 else 10 * v + B i - 48) = v'
      have hv'b : v' < 10000000 := by
        rw [← hv']
        split <;> omega
      have g6 : ∀ x, ((t.s1 1 6 x).A 1 5) = yI i := fun x => by
        rw [ys1_upd, yupd_ne (by decide)]
        exact h5
      have F1 : yFr (fun a => a = 1) t ((t.s1 1 6 (yI v')).s1 1 5 (yI (i + 1))) := (yFr_s1 (P := fun a => a = 1) rfl).trans (yFr_s1 (P := fun a => a = 1) rfl) (fun a h => by omega)
      obtain ⟨u, hu, u5, u6, uj, Fu⟩ := ih (i + 1) v' ((t.s1 1 6 (yI v')).s1 1 5 (yI (i + 1))) (by omega) hv'b (yXt_s1 (yXt_s1 X (by decide)) (by decide)) ys1_same (by rw [ys1_upd, yupd_ne (by decide)]; exact ys1_same)
      refine ⟨u, fun Q => ?_, u5, u6, fun j j5 j6 => ?_, F1.trans Fu (fun a h => by omega)⟩
      · rw [hc] at g81
        rw [s_80_49]
        by_cases hv1 : 1000000 ≤ v
        · have c1 : ¬ yI v < 1000000 := fun h => absurd ((yI_lt (m := 1000000) (by omega) (by decide)).mp h) (by omega)
          rw [if_pos hv1] at hv'
          have c2 : (1000000 : Int32) = yI v' := by rw [← hv']; rfl
          simp only [s_80_0, s_80_1, s_80_2, s_80_3, s_80_5, s_80_6, s_80_7, s_80_8, s_80_9, s_80_10, s_80_11, s_80_12, s_80_13, s_80_14, s_80_15, s_80_16, s_80_17, s_80_17i, s_80_18, s_80_19, s_80_20, s_80_21, s_80_22, s_80_24, s_80_25, s_80_26, s_80_27, s_80_28, s_80_29, s_80_30, s_80_31, s_80_32, s_80_33, s_80_34, s_80_35, s_80_36, s_80_37, s_80_38, s_80_39, s_80_40, s_80_41, s_80_42, s_80_43, s_80_44, s_80_45, s_80_46, s_80_47, s_80_48, s_80_50, s_80_51, s_80_52, s_80_53, s_80_54, s_80_55, s_80_56, s_80_57, s_80_58, s_80_59, s_80_60, s_80_61, s_80_62, s_80_63, s_80_64, s_80_65, s_80_66, s_80_67, s_80_68, s_80_69, s_80_70, s_80_71, s_80_72, s_80_73, s_80_74, s_80_75, s_80_76, s_80_77, s_80_78, s_80_79, s_80_80, s_80_81, s_80_82, s_80_82i, s_80_83, s_80_84, s_80_85, s_80_86, s_80_87, s_80_88, s_80_89, s_80_90, s_80_91, s_80_92, s_80_93, s_80_94, s_80_95, s_80_96, s_80_97, s_80_98, s_80_99, s_80_100, s_80_101, s_80_102, s_80_103, s_80_104, s_80_105, s_80_106, s_80_107, s_80_108, s_80_109, s_80_110, s_80_111, s_80_111i, s_80_112, s_80_113, s_80_114, s_80_115, s_80_116, s_80_117, s_80_118, s_80_119, s_80_120, s_80_121, s_80_121i, s_80_122, s_80_123, s_80_124, s_80_125, s_80_126, yO_1, h5, h6, X.2.1, h1, if_false, if_true, yA_2, yn_2, h2, h3, hbv, g81, ifb, c1, Gk_v, Gk_n, xcat_nil, xcat_i, xcat_r, xcat_l, xcat_d, Nat.zero_le, Nat.reduceAdd, Nat.reduceLeDiff, true_and, and_true, ykl_i, ykl_r, ykl_n, ykl_l]
          simp only [c2, g6, h7, hu, yO_1]
        · have c1 : yI v < 1000000 := (yI_lt (m := 1000000) (by omega) (by decide)).mpr (by omega)
          rw [if_neg hv1] at hv'
          have c2 : (10 : Int32) * yI v + yI (B i) - 48 = yI v' := by
            have e1 : (10 : Int32) * yI v = yI (10 * v) := yI_mul
            have e2 : (48 : Int32) = yI 48 := rfl
            rw [e1, yI_add, e2, yI_sub (by omega), ← hv']
          rw [hlo] at g81
          simp only [s_80_0, s_80_1, s_80_2, s_80_3, s_80_5, s_80_6, s_80_7, s_80_8, s_80_9, s_80_10, s_80_11, s_80_12, s_80_13, s_80_14, s_80_15, s_80_16, s_80_17, s_80_17i, s_80_18, s_80_19, s_80_20, s_80_21, s_80_22, s_80_24, s_80_25, s_80_26, s_80_27, s_80_28, s_80_29, s_80_30, s_80_31, s_80_32, s_80_33, s_80_34, s_80_35, s_80_36, s_80_37, s_80_38, s_80_39, s_80_40, s_80_41, s_80_42, s_80_43, s_80_44, s_80_45, s_80_46, s_80_47, s_80_48, s_80_50, s_80_51, s_80_52, s_80_53, s_80_54, s_80_55, s_80_56, s_80_57, s_80_58, s_80_59, s_80_60, s_80_61, s_80_62, s_80_63, s_80_64, s_80_65, s_80_66, s_80_67, s_80_68, s_80_69, s_80_70, s_80_71, s_80_72, s_80_73, s_80_74, s_80_75, s_80_76, s_80_77, s_80_78, s_80_79, s_80_80, s_80_81, s_80_82, s_80_82i, s_80_83, s_80_84, s_80_85, s_80_86, s_80_87, s_80_88, s_80_89, s_80_90, s_80_91, s_80_92, s_80_93, s_80_94, s_80_95, s_80_96, s_80_97, s_80_98, s_80_99, s_80_100, s_80_101, s_80_102, s_80_103, s_80_104, s_80_105, s_80_106, s_80_107, s_80_108, s_80_109, s_80_110, s_80_111, s_80_111i, s_80_112, s_80_113, s_80_114, s_80_115, s_80_116, s_80_117, s_80_118, s_80_119, s_80_120, s_80_121, s_80_121i, s_80_122, s_80_123, s_80_124, s_80_125, s_80_126, yO_1, h5, h6, X.2.1, h1, if_false, if_true, yA_2, yn_2, h2, h3, hbv, g81, ifb, c1, hlo, c2, g6, h7, hu, Gk_v, Gk_n, xcat_nil, xcat_i, xcat_r, xcat_l, xcat_d, Nat.zero_le, Nat.reduceAdd, Nat.reduceLeDiff, true_and, and_true, ykl_i, ykl_r, ykl_n, ykl_l]
      · rw [uj j j5 j6, ys1_upd, yupd_ne j5, ys1_upd, yupd_ne j6]
theorem l_80c {n : Nat} {B : Nat → Nat} : ∀ m i (t : yT), i + m = n → yXt t n B → t.A 1 5 = yI i → ∃ u, Ga (d + 1) 80 98 [some (.ref 1)] [] (yemb t) (.inl none) (yemb u) ∧ (u.A 1 5 = yI (yw yle B m i) ∧ ((∀ j, j ≠ 5 → u.A 1 j = t.A 1 j) ∧ yFr (fun a => a = 1) t u)) := by
  intro m
  induction m with
  | zero =>
    intro i t hi X h5
    have h600 := X.1
    have h1 : yI n ≤ yI i := (yI_le (by omega) (by omega)).mpr (by omega)
    refine ⟨t, fun Q => ?_, h5, fun _ _ => rfl, yFr.rfl'⟩
    rw [s_80_98]
    simp only [s_80_99, s_80_100, s_80_101, s_80_102, s_80_126, yO_1, h5, X.2.1, h1, if_true, Gk_v, Gk_n, xcat_nil, xcat_i, xcat_r, xcat_l, xcat_d, Nat.zero_le, Nat.reduceAdd, Nat.reduceLeDiff, true_and, and_true, ykl_i, ykl_r, ykl_n, ykl_l]
  | succ m ih =>
    intro i t hi X h5
    have h600 := X.1
    have h1 : ¬ yI n ≤ yI i := fun h => absurd ((yI_le (by omega) (by omega)).mp h) (by omega)
    have h2 : yix (yI i) 600 := yix_I (by omega) (by omega)
    have h3 : (yI i).toNatClampNeg = i := yI_clamp (by omega)
    have h7 : yI i + 1 = yI (i + 1) := yI_add
    obtain ⟨hb, hbv⟩ := X.2.2 i (by omega)
    have g82 := fun (t' : yT) => m_82 (d := d) hb (σ := yemb t')
    rw [yw]
    cases hc : yle (B i)
    · refine ⟨t, fun Q => ?_, ?_, fun _ _ => rfl, yFr.rfl'⟩
      · rw [hc] at g82
        rw [s_80_98]
        simp only [s_80_99, s_80_100, s_80_101, s_80_102, s_80_103, s_80_104, s_80_105, s_80_106, s_80_107, s_80_108, s_80_109, s_80_126, yO_1, h5, X.2.1, h1, if_false, if_true, yA_2, yn_2, h2, h3, hbv, g82, ifb, Bool.false_eq_true, Gk_v, Gk_n, xcat_nil, xcat_i, xcat_r, xcat_l, xcat_d, Nat.zero_le, Nat.reduceAdd, Nat.reduceLeDiff, true_and, and_true, ykl_i, ykl_r, ykl_n, ykl_l]
      · rw [if_neg (by decide)]; exact h5
    · rw [if_pos rfl]
      obtain ⟨u, hu, u5, uj, Fu⟩ := ih (i + 1) (t.s1 1 5 (yI (i + 1))) (by omega) (yXt_s1 X (by decide)) ys1_same
      refine ⟨u, fun Q => ?_, u5, fun j j5 => ?_, (yFr_s1 (P := fun a => a = 1) rfl).trans Fu (fun a h => by omega)⟩
      · rw [hc] at g82
        rw [s_80_98]
        simp only [s_80_0, s_80_1, s_80_2, s_80_3, s_80_5, s_80_6, s_80_7, s_80_8, s_80_9, s_80_10, s_80_11, s_80_12, s_80_13, s_80_14, s_80_15, s_80_16, s_80_17, s_80_17i, s_80_18, s_80_19, s_80_20, s_80_21, s_80_22, s_80_24, s_80_25, s_80_26, s_80_27, s_80_28, s_80_29, s_80_30, s_80_31, s_80_32, s_80_33, s_80_34, s_80_35, s_80_36, s_80_37, s_80_38, s_80_39, s_80_40, s_80_41, s_80_42, s_80_43, s_80_44, s_80_45, s_80_46, s_80_47, s_80_48, s_80_50, s_80_51, s_80_52, s_80_53, s_80_54, s_80_55, s_80_56, s_80_57, s_80_58, s_80_59, s_80_60, s_80_61, s_80_62, s_80_63, s_80_64, s_80_65, s_80_66, s_80_67, s_80_68, s_80_69, s_80_70, s_80_71, s_80_72, s_80_73, s_80_74, s_80_75, s_80_76, s_80_77, s_80_78, s_80_79, s_80_80, s_80_81, s_80_82, s_80_82i, s_80_83, s_80_84, s_80_85, s_80_86, s_80_87, s_80_88, s_80_89, s_80_90, s_80_91, s_80_92, s_80_93, s_80_94, s_80_95, s_80_96, s_80_97, s_80_99, s_80_100, s_80_101, s_80_102, s_80_103, s_80_104, s_80_105, s_80_106, s_80_107, s_80_108, s_80_109, s_80_110, s_80_111, s_80_111i, s_80_112, s_80_113, s_80_114, s_80_115, s_80_116, s_80_117, s_80_118, s_80_119, s_80_120, s_80_121, s_80_121i, s_80_122, s_80_123, s_80_124, s_80_125, s_80_126, yO_1, h5, X.2.1, h1, if_false, if_true, yA_2, yn_2, h2, h3, hbv, g82, ifb, h7, hu, Gk_v, Gk_n, xcat_nil, xcat_i, xcat_r, xcat_l, xcat_d, Nat.zero_le, Nat.reduceAdd, Nat.reduceLeDiff, true_and, and_true, ykl_i, ykl_r, ykl_n, ykl_l]
      · rw [uj j j5, ys1_upd, yupd_ne j5]
end

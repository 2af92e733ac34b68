/-! ===== wrongIn, the checksum ===== -/
section
variable {d : Nat} {t : yT} {D : yD} {k : Nat} {E : Nat → yD} {s0 s1 : Option yD} {n : Nat} {B : Nat → Nat} {eo en : Int32}
theorem ypasses_same : ∀ m (D X : yD), ysame D X → ysame D (ypasses m X) := by
  intro m
  induction m with
  | zero => intro D X h; exact h
  | succ m ih =>
    intro D X h
    exact ih _ _ (ygo_same _ _ _ _ _ h)
theorem l_104 {T : Nat} (hT : T ≤ 20) : ∀ m i (t : yT) (X : yD), yW t 19 X → i + m = T → ∃ u, Gg (d + 4) 104 22 [some (.ref 0), some (.int (yI T)), some (.int (yI i))] [] (yemb t) 30 [some (.ref 0), some (.int (yI T)), some (.int (yI T))] [] (yemb u) ∧ (yW u 19 (ypasses m X) ∧ yFr (fun a => 19 ≤ a ∧ a ≤ 30) t u) := by
  intro m
  induction m with
  | zero =>
    intro i t X W hi
    have e : i = T := by omega
    have h3 : yI T ≤ yI T := Int32.le_refl _
    refine ⟨t, fun Q => ?_, W, yFr.rfl'⟩
    rw [s_104_22]
    simp only [s_104_0, s_104_1, s_104_2, s_104_3, s_104_4, s_104_5, s_104_6, s_104_7, s_104_7i, s_104_10, s_104_11, s_104_12, s_104_13, s_104_14, s_104_15, s_104_16, s_104_17, s_104_18, s_104_19, s_104_20, s_104_21, s_104_23, s_104_24, s_104_25, s_104_26, s_104_27, s_104_28, s_104_29, s_104_31, s_104_32, s_104_33, e, h3, if_true, Gk_v, Gk_n, xcat_nil, xcat_i, xcat_r, xcat_l, xcat_d, Nat.zero_le, Nat.reduceAdd, Nat.reduceLeDiff, true_and, and_true, ykl_i, ykl_r, ykl_n, ykl_l]
  | succ m ih =>
    intro i t X W hi
    have h3 : ¬ yI T ≤ yI i := fun h => absurd ((yI_le (by omega) (by omega)).mp h) (by omega)
    have h4 : yI i + 1 = yI (i + 1) := yI_add
    obtain ⟨u1, h1, W1, F1⟩ := m_54 (d := d) W
    rw [ytaken_go W.ok] at W1
    obtain ⟨u, hu, Wu, Fu⟩ := ih (i + 1) u1 _ W1 (by omega)
    refine ⟨u, fun Q => ?_, Wu, F1.trans Fu (fun a h => by omega)⟩
    rw [s_104_22]
    simp only [s_104_0, s_104_1, s_104_2, s_104_3, s_104_4, s_104_5, s_104_6, s_104_7, s_104_7i, s_104_10, s_104_11, s_104_12, s_104_13, s_104_14, s_104_15, s_104_16, s_104_17, s_104_18, s_104_19, s_104_20, s_104_21, s_104_23, s_104_24, s_104_25, s_104_26, s_104_27, s_104_28, s_104_29, s_104_31, s_104_32, s_104_33, yO_0, yO_19, h3, if_false, h1, h4, hu, Gk_v, Gk_n, xcat_nil, xcat_i, xcat_r, xcat_l, xcat_d, Nat.zero_le, Nat.reduceAdd, Nat.reduceLeDiff, true_and, and_true, ykl_i, ykl_r, ykl_n, ykl_l]
theorem q_104 (C : yCI t D k E s0 s1 n B eo en) {T : Nat} (hT1 : 1 ≤ T) (hT : T ≤ 20) : ∃ u, Ra (d + 4) 104 [.ref 0, .int (yI T)] (yemb t) (.inl (some (.int (ywrongs (ypasses T (ydue D)))))) (yemb u) ∧ (yCI u D k E s0 s1 n B eo en ∧ yFr (fun a => a < 160) t u) := by
  obtain ⟨u1, h1, W1, F1⟩ := m_31' (d := d + 3) C.1 (o := 19) yO_19 (by decide)
  obtain ⟨u2, h2, W2, F2⟩ := m_53 (d := d) W1
  obtain ⟨u3, h3, W3, F3⟩ := l_104 (d := d) hT T 0 u2 _ W2 (Nat.zero_add _)
  have c1 : ¬ yI T < 1 := fun h => absurd ((yI_lt (m := 1) (by omega) (by decide)).mp h) (by omega)
  have c2 : yI T ≤ 20 := (yI_le (m := 20) (by omega) (by decide)).mpr (by omega)
  have g3 := fun Q' => m_59 (d := d) (Q := Q') W3
  have F : yFr (fun a => (3 ≤ a ∧ a ≤ 5) ∨ (19 ≤ a ∧ a ≤ 30)) t u3 := (F1.trans F2 (P'' := fun a => (3 ≤ a ∧ a ≤ 5) ∨ (19 ≤ a ∧ a ≤ 30)) (fun a h => by omega)).trans F3 (fun a h => by omega)
  refine ⟨u3, fun Q => ?_, yCI_fr C F (fun a h => by omega), F.mono (fun a h => by omega)⟩
  show G (d + 4) 104 0 [some (.ref 0), some (.int (yI T)), none] [] (yemb t) Q ↔ _
  have h3' := h3 Q
  simp only [s_104_0, s_104_1, s_104_2, s_104_3, s_104_4, s_104_5, s_104_6, s_104_7, s_104_7i, s_104_10, s_104_11, s_104_12, s_104_13, s_104_14, s_104_15, s_104_16, s_104_17, s_104_18, s_104_19, s_104_20, s_104_21, yO_0, yO_7, yO_19, c1, c2, if_true, if_false, h1, h2, Gk_v, Gk_n, xcat_nil, xcat_i, xcat_r, xcat_l, xcat_d, Nat.zero_le, Nat.reduceAdd, Nat.reduceLeDiff, true_and, and_true, ykl_i, ykl_r, ykl_n, ykl_l]
  rw [show (0 : Int32) = yI 0 from rfl, h3']
  simp only [s_104_30, s_104_31 yO_0, s_104_32 yO_19, s_104_33, g3, Gk_v, Gk_n, xcat_nil, xcat_i, xcat_r, xcat_l, xcat_d, Nat.zero_le, Nat.reduceAdd, Nat.reduceLeDiff, true_and, and_true, ykl_i, ykl_r, ykl_n, ykl_l]
theorem q_104t {b : Int32} (hb : decide (1 ≤ b ∧ b ≤ 20) = false) (hz : t.z.1.1 < 900000) : Ra (d + 4) 104 [.ref 0, .int b] (yemb t) (.inr 0) (yemb t.bp) := by
  intro Q
  have hb' := of_decide_eq_false hb
  show G (d + 4) 104 0 [some (.ref 0), some (.int b), none] [] (yemb t) Q ↔ _
  by_cases c1 : b < 1
  · simp only [s_104_0, s_104_1, s_104_2, s_104_3, s_104_4, s_104_5, s_104_6, s_104_7, s_104_7i, s_104_10, s_104_11, s_104_12, s_104_13, s_104_14, s_104_15, s_104_16, s_104_17, s_104_18, s_104_19, s_104_20, s_104_21, s_104_22, s_104_23, s_104_24, s_104_25, s_104_26, s_104_27, s_104_28, s_104_29, s_104_30, s_104_31, s_104_32, s_104_33, c1, if_true, xbump_z hz, xbump_emb, Gk_v, Gk_n, xcat_nil, xcat_i, xcat_r, xcat_l, xcat_d, Nat.zero_le, Nat.reduceAdd, Nat.reduceLeDiff, true_and, and_true, ykl_i, ykl_r, ykl_n, ykl_l]
  · have c2 : ¬ b ≤ 20 := fun h => hb' ⟨Int32.not_lt.mp c1, h⟩
    simp only [s_104_0, s_104_1, s_104_2, s_104_3, s_104_4, s_104_5, s_104_6, s_104_7, s_104_7i, s_104_10, s_104_11, s_104_12, s_104_13, s_104_14, s_104_15, s_104_16, s_104_17, s_104_18, s_104_19, s_104_20, s_104_21, s_104_22, s_104_23, s_104_24, s_104_25, s_104_26, s_104_27, s_104_28, s_104_29, s_104_30, s_104_31, s_104_32, s_104_33, c1, c2, if_false, xbump_z hz, xbump_emb, Gk_v, Gk_n, xcat_nil, xcat_i, xcat_r, xcat_l, xcat_d, Nat.zero_le, Nat.reduceAdd, Nat.reduceLeDiff, true_and, and_true, ykl_i, ykl_r, ykl_n, ykl_l]
/- the checksum -/
def yck1 (D : yD) : Nat → Nat → Int64 → Int64 := yfold (fun w a => 31 * a + (ytS D w).toInt64)
def yck2 (D : yD) : Nat → Nat → Int64 → Int64 := yfold (fun p a => yfold (fun w a => 31 * a + (ytP D p w).toInt64) 9 0 a)
def yck3 (D : yD) : Nat → Nat → Int64 → Int64 := yfold (fun g a => yfold (fun w a => 31 * a + (ytF' D g w).toInt64) 4 0 a)
def ysum (D : yD) : Int64 := yck3 D D.f 0 (yck2 D D.n 0 (yck1 D 10 0 0))
theorem l_118a (W : yW t 7 D) : ∀ m w a l4, w + m = 10 → Gg (d + 6) 118 4 [some (.ref 0), some (.long a), none, some (.int (yI w)), l4] [] (yemb t) 18 [some (.ref 0), some (.long (yck1 D m w a)), none, some (.int (yI 10)), l4] [] (yemb t) := by
  intro m
  induction m with
  | zero =>
    intro w a l4 hw Q
    have e : w = 10 := by omega
    subst e
    rw [s_118_4]
    simp only [s_118_0, s_118_1, s_118_2, s_118_3, s_118_5, s_118_6, s_118_7, s_118_8, s_118_9, s_118_10, s_118_11, s_118_12, s_118_13, s_118_14, s_118_15, s_118_16, s_118_17, s_118_19, s_118_20, s_118_21, s_118_22, s_118_23, s_118_24, s_118_25, s_118_26, s_118_27, s_118_28, s_118_29, s_118_30, s_118_31, s_118_32, s_118_33, s_118_34, s_118_35, s_118_36, s_118_37, s_118_38, s_118_39, s_118_40, s_118_41, s_118_42, s_118_43, s_118_44, s_118_45, s_118_46, s_118_47, s_118_48, s_118_49, s_118_50, s_118_51, s_118_52, s_118_53, s_118_54, s_118_55, s_118_56, s_118_57, s_118_58, s_118_59, s_118_60, s_118_61, s_118_62, s_118_63, s_118_64, s_118_65, s_118_66, s_118_67, s_118_68, s_118_69, s_118_70, s_118_71, show (9 : Int32) < yI 10 from by decide, if_true, Gk_v, Gk_n, xcat_nil, xcat_i, xcat_r, xcat_l, xcat_d, Nat.zero_le, Nat.reduceAdd, Nat.reduceLeDiff, true_and, and_true, ykl_i, ykl_r, ykl_n, ykl_l]
    rfl
  | succ m ih =>
    intro w a l4 hw Q
    have h3 : ¬ (9 : Int32) < yI w := fun h => absurd ((yI_lt (n := 9) (by decide) (by omega)).mp h) (by omega)
    have h4 : yI w + 1 = yI (w + 1) := yI_add
    have g := fun Q' => m_99 (d := d) W (w := w) (by omega) Q'
    have hi := ih (w + 1) (31 * a + (ytS D w).toInt64) l4 (by omega) Q
    rw [s_118_4]
    simp only [s_118_0, s_118_1, s_118_2, s_118_3, s_118_5, s_118_6, s_118_7, s_118_8, s_118_9, s_118_10, s_118_11, s_118_12, s_118_13, s_118_14, s_118_15, s_118_16, s_118_17, s_118_19, s_118_20, s_118_21, s_118_22, s_118_23, s_118_24, s_118_25, s_118_26, s_118_27, s_118_28, s_118_29, s_118_30, s_118_31, s_118_32, s_118_33, s_118_34, s_118_35, s_118_36, s_118_37, s_118_38, s_118_39, s_118_40, s_118_41, s_118_42, s_118_43, s_118_44, s_118_45, s_118_46, s_118_47, s_118_48, s_118_49, s_118_50, s_118_51, s_118_52, s_118_53, s_118_54, s_118_55, s_118_56, s_118_57, s_118_58, s_118_59, s_118_60, s_118_61, s_118_62, s_118_63, s_118_64, s_118_65, s_118_66, s_118_67, s_118_68, s_118_69, s_118_70, s_118_71, yO_0, h3, if_false, g, h4, Gk_v, Gk_n, xcat_nil, xcat_i, xcat_r, xcat_l, xcat_d, Nat.zero_le, Nat.reduceAdd, Nat.reduceLeDiff, true_and, and_true, ykl_i, ykl_r, ykl_n, ykl_l]
    exact hi
theorem l_118b (W : yW t 7 D) {p : Nat} (hp : p < D.n) : ∀ m w a, w + m = 9 → Gg (d + 6) 118 27 [some (.ref 0), some (.long a), none, some (.int (yI p)), some (.int (yI w))] [] (yemb t) 42 [some (.ref 0), some (.long (yfold (fun w a => 31 * a + (ytP D p w).toInt64) m w a)), none, some (.int (yI p)), some (.int (yI 9))] [] (yemb t) := by
  have hn40 := W.ok.n40
  have hc : yisp D (yI p) = true := decide_eq_true ⟨(yI_le (n := 0) (by decide) (by omega)).mpr (Nat.zero_le _), (yI_lt (by omega) (by omega)).mpr hp⟩
  intro m
  induction m with
  | zero =>
    intro w a hw Q
    have e : w = 9 := by omega
    subst e
    rw [s_118_27]
    simp only [s_118_0, s_118_1, s_118_2, s_118_3, s_118_4, s_118_5, s_118_6, s_118_7, s_118_8, s_118_9, s_118_10, s_118_11, s_118_12, s_118_13, s_118_14, s_118_15, s_118_16, s_118_17, s_118_18, s_118_19, s_118_20, s_118_21, s_118_22, s_118_23, s_118_24, s_118_25, s_118_26, s_118_28, s_118_29, s_118_30, s_118_31, s_118_32, s_118_33, s_118_34, s_118_35, s_118_36, s_118_37, s_118_38, s_118_39, s_118_40, s_118_41, s_118_43, s_118_44, s_118_45, s_118_46, s_118_47, s_118_48, s_118_49, s_118_50, s_118_51, s_118_52, s_118_53, s_118_54, s_118_55, s_118_56, s_118_57, s_118_58, s_118_59, s_118_60, s_118_61, s_118_62, s_118_63, s_118_64, s_118_65, s_118_66, s_118_67, s_118_68, s_118_69, s_118_70, s_118_71, show (8 : Int32) < yI 9 from by decide, if_true, Gk_v, Gk_n, xcat_nil, xcat_i, xcat_r, xcat_l, xcat_d, Nat.zero_le, Nat.reduceAdd, Nat.reduceLeDiff, true_and, and_true, ykl_i, ykl_r, ykl_n, ykl_l]
    rfl
  | succ m ih =>
    intro w a hw Q
    have h3 : ¬ (8 : Int32) < yI w := fun h => absurd ((yI_lt (n := 8) (by decide) (by omega)).mp h) (by omega)
    have h4 : yI w + 1 = yI (w + 1) := yI_add
    have g := fun Q' => m_100 (d := d) W hp hc (w := w) (by omega) Q'
    have hi := ih (w + 1) (31 * a + (ytP D p w).toInt64) (by omega) Q
    rw [s_118_27]
    simp only [s_118_0, s_118_1, s_118_2, s_118_3, s_118_4, s_118_5, s_118_6, s_118_7, s_118_8, s_118_9, s_118_10, s_118_11, s_118_12, s_118_13, s_118_14, s_118_15, s_118_16, s_118_17, s_118_18, s_118_19, s_118_20, s_118_21, s_118_22, s_118_23, s_118_24, s_118_25, s_118_26, s_118_28, s_118_29, s_118_30, s_118_31, s_118_32, s_118_33, s_118_34, s_118_35, s_118_36, s_118_37, s_118_38, s_118_39, s_118_40, s_118_41, s_118_43, s_118_44, s_118_45, s_118_46, s_118_47, s_118_48, s_118_49, s_118_50, s_118_51, s_118_52, s_118_53, s_118_54, s_118_55, s_118_56, s_118_57, s_118_58, s_118_59, s_118_60, s_118_61, s_118_62, s_118_63, s_118_64, s_118_65, s_118_66, s_118_67, s_118_68, s_118_69, s_118_70, s_118_71, yO_0, h3, if_false, g, h4, Gk_v, Gk_n, xcat_nil, xcat_i, xcat_r, xcat_l, xcat_d, Nat.zero_le, Nat.reduceAdd, Nat.reduceLeDiff, true_and, and_true, ykl_i, ykl_r, ykl_n, ykl_l]
    exact hi
theorem l_118c (W : yW t 7 D) : ∀ m p a l4, p + m = D.n → ∃ l4', Gg (d + 6) 118 20 [some (.ref 0), some (.long a), none, some (.int (yI p)), l4] [] (yemb t) 44 [some (.ref 0), some (.long (yck2 D m p a)), none, some (.int (yI D.n)), l4'] [] (yemb t) := by
  have hn40 := W.ok.n40
  intro m
  induction m with
  | zero =>
    intro p a l4 hp
    have e : p = D.n := by omega
    have h3 : yI D.n ≤ yI D.n := Int32.le_refl _
    refine ⟨l4, fun Q => ?_⟩
    rw [s_118_20]
    simp only [s_118_0, s_118_1, s_118_2, s_118_3, s_118_4, s_118_5, s_118_6, s_118_7, s_118_8, s_118_9, s_118_10, s_118_11, s_118_12, s_118_13, s_118_14, s_118_15, s_118_16, s_118_17, s_118_18, s_118_19, s_118_21, s_118_22, s_118_23, s_118_24, s_118_25, s_118_26, s_118_27, s_118_28, s_118_29, s_118_30, s_118_31, s_118_32, s_118_33, s_118_34, s_118_35, s_118_36, s_118_37, s_118_38, s_118_39, s_118_40, s_118_41, s_118_42, s_118_43, s_118_45, s_118_46, s_118_47, s_118_48, s_118_49, s_118_50, s_118_51, s_118_52, s_118_53, s_118_54, s_118_55, s_118_56, s_118_57, s_118_58, s_118_59, s_118_60, s_118_61, s_118_62, s_118_63, s_118_64, s_118_65, s_118_66, s_118_67, s_118_68, s_118_69, s_118_70, s_118_71, yO_0, yO_7, W.n, e, h3, if_true, Gk_v, Gk_n, xcat_nil, xcat_i, xcat_r, xcat_l, xcat_d, Nat.zero_le, Nat.reduceAdd, Nat.reduceLeDiff, true_and, and_true, ykl_i, ykl_r, ykl_n, ykl_l]
    rfl
  | succ m ih =>
    intro p a l4 hp
    have h3 : ¬ yI D.n ≤ yI p := fun h => absurd ((yI_le (by omega) (by omega)).mp h) (by omega)
    have h4 : yI p + 1 = yI (p + 1) := yI_add
    obtain ⟨l4', hi⟩ := ih (p + 1) (yfold (fun w a => 31 * a + (ytP D p w).toInt64) 9 0 a) (some (.int (yI 9))) (by omega)
    refine ⟨l4', fun Q => ?_⟩
    have hb := l_118b (d := d) W (p := p) (by omega) 9 0 a (by omega) Q
    rw [s_118_20]
    simp only [s_118_0, s_118_1, s_118_2, s_118_3, s_118_4, s_118_5, s_118_6, s_118_7, s_118_8, s_118_9, s_118_10, s_118_11, s_118_12, s_118_13, s_118_14, s_118_15, s_118_16, s_118_17, s_118_18, s_118_19, s_118_21, s_118_22, s_118_23, s_118_24, s_118_25, s_118_26, s_118_45, s_118_46, s_118_47, s_118_48, s_118_49, s_118_50, s_118_51, s_118_52, s_118_53, s_118_54, s_118_55, s_118_56, s_118_57, s_118_58, s_118_59, s_118_60, s_118_61, s_118_62, s_118_63, s_118_64, s_118_65, s_118_66, s_118_67, s_118_68, s_118_69, s_118_70, s_118_71, yO_0, yO_7, W.n, h3, if_false, Gk_v, Gk_n, xcat_nil, xcat_i, xcat_r, xcat_l, xcat_d, Nat.zero_le, Nat.reduceAdd, Nat.reduceLeDiff, true_and, and_true, ykl_i, ykl_r, ykl_n, ykl_l]
    rw [show (0 : Int32) = yI 0 from rfl, hb]
    simp only [s_118_42, s_118_43, h4, Gk_v, Gk_n, xcat_nil, xcat_i, xcat_r, xcat_l, xcat_d, Nat.zero_le, Nat.reduceAdd, Nat.reduceLeDiff, true_and, and_true, ykl_i, ykl_r, ykl_n, ykl_l]
    exact hi Q
theorem l_118d (W : yW t 7 D) {p : Nat} (hp : p < D.f) : ∀ m w a, w + m = 4 → Gg (d + 6) 118 53 [some (.ref 0), some (.long a), none, some (.int (yI p)), some (.int (yI w))] [] (yemb t) 68 [some (.ref 0), some (.long (yfold (fun w a => 31 * a + (ytF' D p w).toInt64) m w a)), none, some (.int (yI p)), some (.int (yI 4))] [] (yemb t) := by
  have hf6 := W.ok.f6
  have hc : yisf D (yI p) = true := decide_eq_true ⟨(yI_le (n := 0) (by decide) (by omega)).mpr (Nat.zero_le _), (yI_lt (by omega) (by omega)).mpr hp⟩
  intro m
  induction m with
  | zero =>
    intro w a hw Q
    have e : w = 4 := by omega
    subst e
    rw [s_118_53]
    simp only [s_118_0, s_118_1, s_118_2, s_118_3, s_118_4, s_118_5, s_118_6, s_118_7, s_118_8, s_118_9, s_118_10, s_118_11, s_118_12, s_118_13, s_118_14, s_118_15, s_118_16, s_118_17, s_118_18, s_118_19, s_118_20, s_118_21, s_118_22, s_118_23, s_118_24, s_118_25, s_118_26, s_118_27, s_118_28, s_118_29, s_118_30, s_118_31, s_118_32, s_118_33, s_118_34, s_118_35, s_118_36, s_118_37, s_118_38, s_118_39, s_118_40, s_118_41, s_118_42, s_118_43, s_118_44, s_118_45, s_118_46, s_118_47, s_118_48, s_118_49, s_118_50, s_118_51, s_118_52, s_118_54, s_118_55, s_118_56, s_118_57, s_118_58, s_118_59, s_118_60, s_118_61, s_118_62, s_118_63, s_118_64, s_118_65, s_118_66, s_118_67, s_118_69, s_118_70, s_118_71, show (3 : Int32) < yI 4 from by decide, if_true, Gk_v, Gk_n, xcat_nil, xcat_i, xcat_r, xcat_l, xcat_d, Nat.zero_le, Nat.reduceAdd, Nat.reduceLeDiff, true_and, and_true, ykl_i, ykl_r, ykl_n, ykl_l]
    rfl
  | succ m ih =>
    intro w a hw Q
    have h3 : ¬ (3 : Int32) < yI w := fun h => absurd ((yI_lt (n := 3) (by decide) (by omega)).mp h) (by omega)
    have h4 : yI w + 1 = yI (w + 1) := yI_add
    have g := fun Q' => m_101 (d := d + 1) W hp hc (w := w) (by omega) Q'
    have hi := ih (w + 1) (31 * a + (ytF' D p w).toInt64) (by omega) Q
    rw [s_118_53]
    simp only [s_118_0, s_118_1, s_118_2, s_118_3, s_118_4, s_118_5, s_118_6, s_118_7, s_118_8, s_118_9, s_118_10, s_118_11, s_118_12, s_118_13, s_118_14, s_118_15, s_118_16, s_118_17, s_118_18, s_118_19, s_118_20, s_118_21, s_118_22, s_118_23, s_118_24, s_118_25, s_118_26, s_118_27, s_118_28, s_118_29, s_118_30, s_118_31, s_118_32, s_118_33, s_118_34, s_118_35, s_118_36, s_118_37, s_118_38, s_118_39, s_118_40, s_118_41, s_118_42, s_118_43, s_118_44, s_118_45, s_118_46, s_118_47, s_118_48, s_118_49, s_118_50, s_118_51, s_118_52, s_118_54, s_118_55, s_118_56, s_118_57, s_118_58, s_118_59, s_118_60, s_118_61, s_118_62, s_118_63, s_118_64, s_118_65, s_118_66, s_118_67, s_118_69, s_118_70, s_118_71, yO_0, h3, if_false, g, h4, Gk_v, Gk_n, xcat_nil, xcat_i, xcat_r, xcat_l, xcat_d, Nat.zero_le, Nat.reduceAdd, Nat.reduceLeDiff, true_and, and_true, ykl_i, ykl_r, ykl_n, ykl_l]
    exact hi
theorem l_118e (W : yW t 7 D) : ∀ m p a l4, p + m = D.f → Ga (d + 6) 118 46 [some (.ref 0), some (.long a), none, some (.int (yI p)), l4] [] (yemb t) (.inl (some (.long (yck3 D m p a)))) (yemb t) := by
  have hf6 := W.ok.f6
  intro m
  induction m with
  | zero =>
    intro p a l4 hp Q
    have e : p = D.f := by omega
    have h3 : yI D.f ≤ yI D.f := Int32.le_refl _
    rw [s_118_46]
    simp only [s_118_0, s_118_1, s_118_2, s_118_3, s_118_4, s_118_5, s_118_6, s_118_7, s_118_8, s_118_9, s_118_10, s_118_11, s_118_12, s_118_13, s_118_14, s_118_15, s_118_16, s_118_17, s_118_18, s_118_19, s_118_20, s_118_21, s_118_22, s_118_23, s_118_24, s_118_25, s_118_26, s_118_27, s_118_28, s_118_29, s_118_30, s_118_31, s_118_32, s_118_33, s_118_34, s_118_35, s_118_36, s_118_37, s_118_38, s_118_39, s_118_40, s_118_41, s_118_42, s_118_43, s_118_44, s_118_45, s_118_47, s_118_48, s_118_49, s_118_50, s_118_51, s_118_52, s_118_53, s_118_54, s_118_55, s_118_56, s_118_57, s_118_58, s_118_59, s_118_60, s_118_61, s_118_62, s_118_63, s_118_64, s_118_65, s_118_66, s_118_67, s_118_68, s_118_69, s_118_70, s_118_71, yO_0, yO_7, W.f, e, h3, if_true, Gk_v, Gk_n, xcat_nil, xcat_i, xcat_r, xcat_l, xcat_d, Nat.zero_le, Nat.reduceAdd, Nat.reduceLeDiff, true_and, and_true, ykl_i, ykl_r, ykl_n, ykl_l]
    rfl
  | succ m ih =>
    intro p a l4 hp Q
    have h3 : ¬ yI D.f ≤ yI p := fun h => absurd ((yI_le (by omega) (by omega)).mp h) (by omega)
    have h4 : yI p + 1 = yI (p + 1) := yI_add
    have hi := ih (p + 1) (yfold (fun w a => 31 * a + (ytF' D p w).toInt64) 4 0 a) (some (.int (yI 4))) (by omega) Q
    have hb := l_118d (d := d) W (p := p) (by omega) 4 0 a (by omega) Q
    rw [s_118_46]
    simp only [s_118_0, s_118_1, s_118_2, s_118_3, s_118_4, s_118_5, s_118_6, s_118_7, s_118_8, s_118_9, s_118_10, s_118_11, s_118_12, s_118_13, s_118_14, s_118_15, s_118_16, s_118_17, s_118_18, s_118_19, s_118_20, s_118_21, s_118_22, s_118_23, s_118_24, s_118_25, s_118_26, s_118_27, s_118_28, s_118_29, s_118_30, s_118_31, s_118_32, s_118_33, s_118_34, s_118_35, s_118_36, s_118_37, s_118_38, s_118_39, s_118_40, s_118_41, s_118_42, s_118_43, s_118_44, s_118_45, s_118_47, s_118_48, s_118_49, s_118_50, s_118_51, s_118_52, yO_0, yO_7, W.f, h3, if_false, Gk_v, Gk_n, xcat_nil, xcat_i, xcat_r, xcat_l, xcat_d, Nat.zero_le, Nat.reduceAdd, Nat.reduceLeDiff, true_and, and_true, ykl_i, ykl_r, ykl_n, ykl_l]
    rw [show (0 : Int32) = yI 0 from rfl, hb]
    simp only [s_118_68, s_118_69, h4, Gk_v, Gk_n, xcat_nil, xcat_i, xcat_r, xcat_l, xcat_d, Nat.zero_le, Nat.reduceAdd, Nat.reduceLeDiff, true_and, and_true, ykl_i, ykl_r, ykl_n, ykl_l]
    exact hi
theorem m_118 (W : yW t 7 D) : Ra (d + 6) 118 [.ref 0] (yemb t) (.inl (some (.long (ysum D)))) (yemb t) := by
  intro Q
  have h1 := l_118a (d := d) W 10 0 0 none (by omega) Q
  obtain ⟨l4, h2⟩ := l_118c (d := d) W D.n 0 (yck1 D 10 0 0) none (Nat.zero_add _)
  have h2' := h2 Q
  have h3 := l_118e (d := d) W D.f 0 (yck2 D D.n 0 (yck1 D 10 0 0)) l4 (Nat.zero_add _) Q
  show G (d + 6) 118 0 [some (.ref 0), none, none, none, none] [] (yemb t) Q ↔ _
  simp only [s_118_0, s_118_1, s_118_2, s_118_3, Gk_v, Gk_n, xcat_nil, xcat_i, xcat_r, xcat_l, xcat_d, Nat.zero_le, Nat.reduceAdd, Nat.reduceLeDiff, true_and, and_true, ykl_i, ykl_r, ykl_n, ykl_l]
  rw [show (0 : Int32) = yI 0 from rfl, h1]
  simp only [s_118_18, s_118_19, Gk_v, Gk_n, xcat_nil, xcat_i, xcat_r, xcat_l, xcat_d, Nat.zero_le, Nat.reduceAdd, Nat.reduceLeDiff, true_and, and_true, ykl_i, ykl_r, ykl_n, ykl_l]
  rw [show (0 : Int32) = yI 0 from rfl, h2']
  simp only [s_118_44, s_118_45, Gk_v, Gk_n, xcat_nil, xcat_i, xcat_r, xcat_l, xcat_d, Nat.zero_le, Nat.reduceAdd, Nat.reduceLeDiff, true_and, and_true, ykl_i, ykl_r, ykl_n, ykl_l]
  rw [show (0 : Int32) = yI 0 from rfl, h3]
  rfl
end

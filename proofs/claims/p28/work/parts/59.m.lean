/-! ===== the class's reader: advancing ===== -/
theorem ytk_val {n : Nat} {B : Nat → Nat} {q : Nat} : yte n B q ≤ n ∨ n ≤ q := by
  unfold yte
  by_cases h : n ≤ q
  · exact Or.inr h
  · left
    rw [if_neg h]
    have h1 := yw_le (P := ydg) (B := B) (n - q) q
    have h2 := yw_le (P := yle) (B := B) (n - q) q
    split
    · omega
    · split <;> omega
theorem yte_le {n : Nat} {B : Nat → Nat} {q : Nat} (h : q ≤ n) : yte n B q ≤ n := by
  rcases ytk_val (n := n) (B := B) (q := q) with h1 | h1
  · exact h1
  · unfold yte
    rw [if_pos h1]
    exact h
/-- what a token's reading leaves as it is -/
abbrev yKp (t u : yT) : Prop := (∀ j, (j < 3 ∨ 6 < j) → u.A 1 j = t.A 1 j) ∧ yFr (fun a => a = 1) t u
section
variable {d : Nat}
theorem m_80 {n : Nat} {B : Nat → Nat} {e : Nat} {t : yT} (X : yXt t n B) (he : e ≤ n) (h5 : t.A 1 5 = yI e) : ∃ u, Ra (d + 1) 80 [.ref 1] (yemb t) (.inl none) (yemb u) ∧ (yTk u n B (yw ysp B (n - e) e) ∧ yKp t u) := by
  have h600 := X.1
  have hq := yw_le (P := ysp) (B := B) (n - e) e
  have X1 : yXt (t.s1 1 4 (yI e)) n B := yXt_s1 X (by decide)
  obtain ⟨u1, r1, a4, aj, F1⟩ := l_80a (d := d) (n - e) e (t.s1 1 4 (yI e)) (by omega) X1 ys1_same
  generalize yw ysp B (n - e) e = q at *
  -- behind the blanks
  have X2 : yXt u1 n B := by
    refine ⟨h600, ?_, fun i hi => ?_⟩
    · rw [aj 2 (by decide)]; exact X1.2.1
    · rw [F1.A (by decide)]; exact X1.2.2 i hi
  have X3 : yXt ((u1.s1 1 5 (yI q)).s1 1 6 0) n B := yXt_s1 (yXt_s1 X2 (by decide)) (by decide)
  have v4 : ((u1.s1 1 5 (yI q)).s1 1 6 0).A 1 4 = yI q := by
    rw [ys1_upd, yupd_ne (by decide), ys1_upd, yupd_ne (by decide)]
    exact a4
  have v5 : ((u1.s1 1 5 (yI q)).s1 1 6 0).A 1 5 = yI q := by
    rw [ys1_upd, yupd_ne (by decide)]
    exact ys1_same
  have v6 : ((u1.s1 1 5 (yI q)).s1 1 6 0).A 1 6 = yI 0 := ys1_same
  have vj : ∀ j, (j < 3 ∨ 6 < j) → ((u1.s1 1 5 (yI q)).s1 1 6 0).A 1 j = t.A 1 j := by
    intro j hj
    rw [ys1_upd, yupd_ne (by omega), ys1_upd, yupd_ne (by omega), aj j (by omega), ys1_upd, yupd_ne (by omega)]
  have Fv : yFr (fun a => a = 1) t ((u1.s1 1 5 (yI q)).s1 1 6 0) := (((yFr_s1 (P := fun a => a = 1) rfl).trans F1 (P'' := fun a => a = 1) (fun a h => by omega)).trans (yFr_s1 (P := fun a => a = 1) rfl) (P'' := fun a => a = 1) (fun a h => by omega)).trans (yFr_s1 (P := fun a => a = 1) rfl) (fun a h => by omega)
  have start : ∀ Q, G (d + 1) 80 0 [some (.ref 1)] [] (yemb t) Q ↔ G (d + 1) 80 30 [some (.ref 1)] [] (yemb ((u1.s1 1 5 (yI q)).s1 1 6 0)) Q := by
    intro Q
    have r1' := r1 Q
    simp only [s_80_0, s_80_1, s_80_2 yO_1, s_80_3 yO_1, h5, Gk_v, Gk_n, xcat_nil, xcat_i, xcat_r, xcat_l, xcat_d, Nat.zero_le, Nat.reduceAdd, Nat.reduceLeDiff, true_and, and_true, ykl_i, ykl_r, ykl_n, ykl_l]
    refine Iff.trans r1' ?_
    rw [s_80_23]
    simp only [s_80_24, s_80_25 yO_1, s_80_26 yO_1, s_80_27, s_80_28, s_80_29 yO_1, a4, Gk_v, Gk_n, xcat_nil, xcat_i, xcat_r, xcat_l, xcat_d, Nat.zero_le, Nat.reduceAdd, Nat.reduceLeDiff, true_and, and_true, ykl_i, ykl_r, ykl_n, ykl_l]
  generalize (u1.s1 1 5 (yI q)).s1 1 6 0 = v at *
  have c3 : ∀ j x, j ≠ 3 → (v.s1 1 3 x).A 1 j = v.A 1 j := fun j x hj => by
    rw [ys1_upd, yupd_ne hj]
  by_cases hn : n ≤ q
  · have k0 : ytkind n B q = 0 := by rw [ytkind, if_pos hn]
    have e0 : yte n B q = q := by rw [yte, if_pos hn]
    have h1 : ¬ yI q < yI n := fun h => absurd ((yI_lt (by omega) (by omega)).mp h) (by omega)
    refine ⟨v.s1 1 3 0, fun Q => ?_, ⟨yXt_s1 X3 (by decide), by omega, ?_, ?_, ?_, fun h => ?_⟩, fun j hj => ?_, Fv.trans (yFr_s1 (P := fun a => a = 1) rfl) (fun a h => by omega)⟩
    · show G (d + 1) 80 0 [some (.ref 1)] [] (yemb t) Q ↔ _
      rw [start Q]
      simp only [s_80_30, s_80_31 yO_1, s_80_32, s_80_33 yO_1, s_80_34, s_80_35, s_80_36, s_80_37 yO_1, s_80_38, s_80_126, v4, X3.2.1, h1, if_false, Gk_v, Gk_n, xcat_nil, xcat_i, xcat_r, xcat_l, xcat_d, Nat.zero_le, Nat.reduceAdd, Nat.reduceLeDiff, true_and, and_true, ykl_i, ykl_r, ykl_n, ykl_l]
    · rw [c3 _ _ (by decide)]; exact v4
    · rw [k0]; exact ys1_same
    · rw [e0, c3 _ _ (by decide)]; exact v5
    · rw [k0] at h; cases h
    · rw [c3 _ _ (by omega)]; exact vj j hj
  · have h1 : yI q < yI n := (yI_lt (by omega) (by omega)).mpr (by omega)
    have h2 : yix (yI q) 600 := yix_I (by omega) (by omega)
    have h3 : (yI q).toNatClampNeg = q := yI_clamp (by omega)
    have h7 : yI q + 1 = yI (q + 1) := yI_add
    obtain ⟨hb, hbv⟩ := X3.2.2 q (by omega)
    have g81 := m_81 (d := d) hb (σ := yemb v)
    have g82 := m_82 (d := d) hb (σ := yemb v)
    have X4 : ∀ x, yXt (v.s1 1 3 x) n B := fun x => yXt_s1 X3 (by decide)
    have F4 : ∀ x, yFr (fun a => a = 1) t (v.s1 1 3 x) := fun x => Fv.trans (yFr_s1 (P := fun a => a = 1) rfl) (fun a h => by omega)
    cases hd : ydg (B q)
    · rw [hd] at g81
      cases hl : yle (B q)
      · rw [hl] at g82
        have k0 : ytkind n B q = 3 := by rw [ytkind, if_neg hn, hd, hl]; rfl
        have e0 : yte n B q = q + 1 := by rw [yte, if_neg hn, hd, hl]; rfl
        have w5 : (v.s1 1 3 3).A 1 5 = yI q := by rw [c3 _ _ (by decide)]; exact v5
        refine ⟨(v.s1 1 3 3).s1 1 5 (yI (q + 1)), fun Q => ?_, ⟨yXt_s1 (X4 3) (by decide), by omega, ?_, ?_, ?_, fun h => ?_⟩, fun j hj => ?_, (F4 3).trans (yFr_s1 (P := fun a => a = 1) rfl) (fun a h => by omega)⟩
        · show G (d + 1) 80 0 [some (.ref 1)] [] (yemb t) Q ↔ _
          rw [start Q]
          simp only [s_80_0, s_80_1, s_80_2, s_80_3, s_80_5, s_80_6, s_80_7, s_80_8, s_80_9, s_80_10, s_80_11, s_80_12, s_80_13, s_80_14, s_80_15, s_80_16, s_80_17, s_80_17i, s_80_18, s_80_19, s_80_20, s_80_21, s_80_22, s_80_24, s_80_25, s_80_26, s_80_27, s_80_28, s_80_29, s_80_30, s_80_31, s_80_32, s_80_33, s_80_34, s_80_35, s_80_36, s_80_37, s_80_38, s_80_39, s_80_40, s_80_41, s_80_42, s_80_43, s_80_44, s_80_45, s_80_46, s_80_47, s_80_48, s_80_50, s_80_51, s_80_52, s_80_53, s_80_54, s_80_55, s_80_56, s_80_57, s_80_58, s_80_59, s_80_60, s_80_61, s_80_62, s_80_63, s_80_64, s_80_65, s_80_66, s_80_67, s_80_68, s_80_69, s_80_70, s_80_71, s_80_72, s_80_73, s_80_74, s_80_75, s_80_76, s_80_77, s_80_78, s_80_79, s_80_80, s_80_81, s_80_82, s_80_82i, s_80_83, s_80_84, s_80_85, s_80_86, s_80_87, s_80_88, s_80_89, s_80_90, s_80_91, s_80_92, s_80_93, s_80_94, s_80_95, s_80_96, s_80_97, s_80_99, s_80_100, s_80_101, s_80_102, s_80_103, s_80_104, s_80_105, s_80_106, s_80_107, s_80_108, s_80_109, s_80_110, s_80_111, s_80_111i, s_80_112, s_80_113, s_80_114, s_80_115, s_80_116, s_80_117, s_80_118, s_80_119, s_80_120, s_80_121, s_80_121i, s_80_122, s_80_123, s_80_124, s_80_125, s_80_126, yO_1, v4, X3.2.1, h1, if_true, yA_2, yn_2, h2, h3, hbv, g81, g82, ifb, Bool.false_eq_true, if_false, w5, h7, Gk_v, Gk_n, xcat_nil, xcat_i, xcat_r, xcat_l, xcat_d, Nat.zero_le, Nat.reduceAdd, Nat.reduceLeDiff, true_and, and_true, ykl_i, ykl_r, ykl_n, ykl_l]
        · rw [ys1_upd, yupd_ne (by decide), c3 _ _ (by decide)]; exact v4
        · rw [k0, ys1_upd, yupd_ne (by decide)]; exact ys1_same
        · rw [e0]; exact ys1_same
        · rw [k0] at h; cases h
        · rw [ys1_upd, yupd_ne (by omega), c3 _ _ (by omega)]; exact vj j hj
      · rw [hl] at g82
        have k0 : ytkind n B q = 2 := by rw [ytkind, if_neg hn, hd, hl]; rfl
        have e0 : yte n B q = yw yle B (n - q) q := by rw [yte, if_neg hn, hd, hl]; rfl
        obtain ⟨u, hu, u5, uj, Fu⟩ := l_80c (d := d) (n - q) q (v.s1 1 3 2) (by omega) (X4 2) (by rw [c3 _ _ (by decide)]; exact v5)
        refine ⟨u, fun Q => ?_, ⟨⟨h600, by rw [uj 2 (by decide)]; exact (X4 2).2.1, fun i hi => by rw [Fu.A (by decide)]; exact (X4 2).2.2 i hi⟩, by omega, ?_, ?_, ?_, fun h => ?_⟩, fun j hj => ?_, (F4 2).trans Fu (fun a h => by omega)⟩
        · show G (d + 1) 80 0 [some (.ref 1)] [] (yemb t) Q ↔ _
          rw [start Q]
          simp only [s_80_0, s_80_1, s_80_2, s_80_3, s_80_5, s_80_6, s_80_7, s_80_8, s_80_9, s_80_10, s_80_11, s_80_12, s_80_13, s_80_14, s_80_15, s_80_16, s_80_17, s_80_17i, s_80_18, s_80_19, s_80_20, s_80_21, s_80_22, s_80_24, s_80_25, s_80_26, s_80_27, s_80_28, s_80_29, s_80_30, s_80_31, s_80_32, s_80_33, s_80_34, s_80_35, s_80_36, s_80_37, s_80_38, s_80_39, s_80_40, s_80_41, s_80_42, s_80_43, s_80_44, s_80_45, s_80_46, s_80_47, s_80_48, s_80_50, s_80_51, s_80_52, s_80_53, s_80_54, s_80_55, s_80_56, s_80_57, s_80_58, s_80_59, s_80_60, s_80_61, s_80_62, s_80_63, s_80_64, s_80_65, s_80_66, s_80_67, s_80_68, s_80_69, s_80_70, s_80_71, s_80_72, s_80_73, s_80_74, s_80_75, s_80_76, s_80_77, s_80_78, s_80_79, s_80_80, s_80_81, s_80_82, s_80_82i, s_80_83, s_80_84, s_80_85, s_80_86, s_80_87, s_80_88, s_80_89, s_80_90, s_80_91, s_80_92, s_80_93, s_80_94, s_80_95, s_80_96, s_80_97, s_80_99, s_80_100, s_80_101, s_80_102, s_80_103, s_80_104, s_80_105, s_80_106, s_80_107, s_80_108, s_80_109, s_80_110, s_80_111, s_80_111i, s_80_112, s_80_113, s_80_114, s_80_115, s_80_116, s_80_117, s_80_118, s_80_119, s_80_120, s_80_121, s_80_121i, s_80_122, s_80_123, s_80_124, s_80_125, s_80_126, yO_1, v4, X3.2.1, h1, if_true, yA_2, yn_2, h2, h3, hbv, g81, g82, ifb, Bool.false_eq_true, if_false, hu, Gk_v, Gk_n, xcat_nil, xcat_i, xcat_r, xcat_l, xcat_d, Nat.zero_le, Nat.reduceAdd, Nat.reduceLeDiff, true_and, and_true, ykl_i, ykl_r, ykl_n, ykl_l]
        · rw [uj 4 (by decide), c3 _ _ (by decide)]; exact v4
        · rw [k0, uj 3 (by decide)]; exact ys1_same
        · rw [e0]; exact u5
        · rw [k0] at h; cases h
        · rw [uj j (by omega), c3 _ _ (by omega)]; exact vj j hj
    · rw [hd] at g81
      have k0 : ytkind n B q = 1 := by rw [ytkind, if_neg hn, hd]; rfl
      have e0 : yte n B q = yw ydg B (n - q) q := by rw [yte, if_neg hn, hd]; rfl
      obtain ⟨u, hu, u5, u6, uj, Fu⟩ := l_80b (d := d) (n - q) q 0 (v.s1 1 3 1) (by omega) (by decide) (X4 1) (by rw [c3 _ _ (by decide)]; exact v5) (by rw [c3 _ _ (by decide)]; exact v6)
      refine ⟨u, fun Q => ?_, ⟨⟨h600, by rw [uj 2 (by decide) (by decide)]; exact (X4 1).2.1, fun i hi => by rw [Fu.A (by decide)]; exact (X4 1).2.2 i hi⟩, by omega, ?_, ?_, ?_, fun _ => u6⟩, fun j hj => ?_, (F4 1).trans Fu (fun a h => by omega)⟩
      · show G (d + 1) 80 0 [some (.ref 1)] [] (yemb t) Q ↔ _
        rw [start Q]
        simp only [s_80_0, s_80_1, s_80_2, s_80_3, s_80_5, s_80_6, s_80_7, s_80_8, s_80_9, s_80_10, s_80_11, s_80_12, s_80_13, s_80_14, s_80_15, s_80_16, s_80_17, s_80_17i, s_80_18, s_80_19, s_80_20, s_80_21, s_80_22, s_80_24, s_80_25, s_80_26, s_80_27, s_80_28, s_80_29, s_80_30, s_80_31, s_80_32, s_80_33, s_80_34, s_80_35, s_80_36, s_80_37, s_80_38, s_80_39, s_80_40, s_80_41, s_80_42, s_80_43, s_80_44, s_80_45, s_80_46, s_80_47, s_80_48, s_80_50, s_80_51, s_80_52, s_80_53, s_80_54, s_80_55, s_80_56, s_80_57, s_80_58, s_80_59, s_80_60, s_80_61, s_80_62, s_80_63, s_80_64, s_80_65, s_80_66, s_80_67, s_80_68, s_80_69, s_80_70, s_80_71, s_80_72, s_80_73, s_80_74, s_80_75, s_80_76, s_80_77, s_80_78, s_80_79, s_80_80, s_80_81, s_80_82, s_80_82i, s_80_83, s_80_84, s_80_85, s_80_86, s_80_87, s_80_88, s_80_89, s_80_90, s_80_91, s_80_92, s_80_93, s_80_94, s_80_95, s_80_96, s_80_97, s_80_99, s_80_100, s_80_101, s_80_102, s_80_103, s_80_104, s_80_105, s_80_106, s_80_107, s_80_108, s_80_109, s_80_110, s_80_111, s_80_111i, s_80_112, s_80_113, s_80_114, s_80_115, s_80_116, s_80_117, s_80_118, s_80_119, s_80_120, s_80_121, s_80_121i, s_80_122, s_80_123, s_80_124, s_80_125, s_80_126, yO_1, v4, X3.2.1, h1, if_true, yA_2, yn_2, h2, h3, hbv, g81, ifb, if_false, hu, Gk_v, Gk_n, xcat_nil, xcat_i, xcat_r, xcat_l, xcat_d, Nat.zero_le, Nat.reduceAdd, Nat.reduceLeDiff, true_and, and_true, ykl_i, ykl_r, ykl_n, ykl_l]
      · rw [uj 4 (by decide) (by decide), c3 _ _ (by decide)]; exact v4
      · rw [k0, uj 3 (by decide) (by decide)]; exact ys1_same
      · rw [e0]; exact u5
      · rw [uj j (by omega) (by omega), c3 _ _ (by omega)]; exact vj j hj
end

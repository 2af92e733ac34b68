/-! ===== keep, restore ===== -/
theorem yb_f : yb false = 0 := rfl
theorem yb_t : yb true = 1 := rfl
theorem yslot {x : Int32} (h : yin0 1 x = true) : x = 0 ∨ x = 1 := by
  obtain ⟨n, hn, rfl⟩ := yrange (m := 1) (by decide) (of_decide_eq_true h)
  rcases (by omega : n = 0 ∨ n = 1) with h | h <;> subst h
  · exact Or.inl rfl
  · exact Or.inr rfl
theorem yslot_no {x : Int32} (h : yin0 1 x = false) (h0 : ¬ x < 0) : ¬ x < 2 := by
  intro h2
  apply of_decide_eq_false h
  refine ⟨Int32.not_lt.mp h0, ?_⟩
  rw [Int32.le_iff_toInt_le]
  rw [Int32.lt_iff_toInt_lt] at h2
  have e2 : (2 : Int32).toInt = 2 := rfl
  have e1 : (yI 1).toInt = 1 := rfl
  omega
section
variable {d : Nat} {t u : yT} {D : yD} {k : Nat} {E : Nat → yD} {s0 s1 : Option yD} {n : Nat} {B : Nat → Nat} {eo en : Int32}
theorem yH1_fr' {P : Nat → Prop} {w : Nat} (H : yH1 t k w E) (F : yFr P t u) (hP : ∀ a, P a → a ≠ 38 ∧ (a < 40 ∨ 136 ≤ a)) : yH1 u k w E := yH1_fr H F hP
theorem yCI_s0 {X : yD} (C : yCI t D k E s0 s1 n B eo en) (F : yFr (fun a => 136 ≤ a ∧ a ≤ 136 + 9) t u) (W : yW u 136 X) : yCI (u.s1 0 9 1) D k E (some X) s1 n B eo en := by
  have F' : yFr (fun a => a = 0) u (u.s1 0 9 1) := yFr_s1 rfl
  obtain ⟨C0, ⟨w, H⟩, ⟨⟨a1, a2⟩, a3, a4⟩, ⟨b1, b2, b3⟩, c1, c2⟩ := C
  refine ⟨yW_fr (yW_fr C0 F (fun a h1 h2 (h : 136 ≤ a ∧ a ≤ 136 + 9) => by omega)) F' (fun a h1 h2 (h : a = 0) => by omega), ⟨w, yH1_fr (yH1_fr H F (fun a h => by omega)) F' (fun a h => by omega)⟩, ⟨⟨?_, ?_⟩, fun Y hY => ?_, fun Y hY => ?_⟩, ⟨b1, ?_, fun i hi => ?_⟩, ?_, ?_⟩
  · rw [ys1_upd, yupd_same]; rfl
  · rw [ys1_upd, yupd_ne (by decide), F.A (by omega)]; exact a2
  · cases hY
    exact yW_fr W F' (fun a h1 h2 (h : a = 0) => by omega)
  · exact yW_fr (yW_fr (a4 Y hY) F (fun a h1 h2 (h : 136 ≤ a ∧ a ≤ 136 + 9) => by omega)) F' (fun a h1 h2 (h : a = 0) => by omega)
  · rw [ys1_ne (by decide), F.A (by omega)]; exact b2
  · rw [ys1_ne (by decide), F.A (by omega)]; exact b3 i hi
  · rw [ys1_upd, yupd_ne (by decide), F.A (by omega)]; exact c1
  · rw [ys1_upd, yupd_ne (by decide), F.A (by omega)]; exact c2
theorem q_115_0 (C : yCI t D k E s0 s1 n B eo en) : ∃ u, Ra (d + 4) 115 [.ref 0, .int 0] (yemb t) (.inl (some (.int (ywrongs D)))) (yemb u) ∧ (yCI u D k E (some D) s1 n B eo en ∧ yFr (fun a => a < 160) t u) := by
  obtain ⟨u1, h1, W1, F1⟩ := m_31' (d := d + 3) C.1 (o := 136) yO_136 (by decide)
  have C2 := yCI_s0 C F1 W1
  have g := fun Q' => m_59 (d := d) (Q := Q') C2.1
  refine ⟨_, fun Q => ?_, C2, F1.trans (yFr_s1 (P := fun a => a = 0) rfl) (fun a h => by omega)⟩
  show G (d + 4) 115 0 [some (.ref 0), some (.int 0)] [] (yemb t) Q ↔ _
  simp only [s_115_0, s_115_1, s_115_2, s_115_3, s_115_4, s_115_5, s_115_6, s_115_6i, s_115_9, s_115_10, s_115_11, s_115_12, s_115_13, s_115_14, s_115_15, s_115_16, s_115_17, s_115_18, s_115_19, s_115_20, s_115_21, s_115_22, s_115_23, s_115_24, s_115_25, s_115_26, s_115_27, s_115_28, s_115_29, s_115_30, s_115_31, yO_0, yO_7, yO_136, show ¬ (0 : Int32) < 0 from by decide, show (0 : Int32) < 2 from by decide, yne10, ne_eq, not_true_eq_false, not_false_eq_true, if_true, if_false, ybo_1, h1, g, Gk_v, Gk_n, xcat_nil, xcat_i, xcat_r, xcat_l, xcat_d, Nat.zero_le, Nat.reduceAdd, Nat.reduceLeDiff, true_and, and_true, ykl_i, ykl_r, ykl_n, ykl_l]
theorem q_116_0 (C : yCI t D k E s0 s1 n B eo en) {X : yD} (hX : s0 = some X) : ∃ u, Ra (d + 4) 116 [.ref 0, .int 0] (yemb t) (.inl (some (.int (ywrongs X)))) (yemb u) ∧ (yCI u X (min 8 (k + 1)) (ypush D E) s0 s1 n B eo en ∧ yFr (fun a => a < 160) t u) := by
  obtain ⟨u1, h1, C1, F1⟩ := q_6 (d := d + 2) C
  have Wx := C1.2.2.1.2.1 X hX
  obtain ⟨u2, h2, W2, F2⟩ := m_31' (d := d + 3) Wx (o := 7) yO_7 (by decide)
  have g := fun Q' => m_59 (d := d) (Q := Q') W2
  have e1 : t.A 0 9 = 1 := by
    rw [C.2.2.1.1.1, hX]
    rfl
  refine ⟨u2, fun Q => ?_, yCI_D C1 F2 (fun a h => by omega) W2, F1.trans F2 (fun a h => by omega)⟩
  show G (d + 4) 116 0 [some (.ref 0), some (.int 0)] [] (yemb t) Q ↔ _
  simp only [s_116_0, s_116_1, s_116_2, s_116_3, s_116_4, s_116_5, s_116_6, s_116_6i, s_116_9, s_116_10, s_116_11, s_116_12, s_116_13, s_116_14, s_116_15, s_116_16, s_116_17, s_116_18, s_116_19, s_116_19i, s_116_22, s_116_23, s_116_24, s_116_25, s_116_26, s_116_27, s_116_28, s_116_29, s_116_30, s_116_31, s_116_32, s_116_33, s_116_34, s_116_35, s_116_36, s_116_37, s_116_38, s_116_39, s_116_40, yO_0, yO_7, yO_38, e1, show ¬ (0 : Int32) < 0 from by decide, show (0 : Int32) < 2 from by decide, yne10, ne_eq, not_true_eq_false, not_false_eq_true, if_true, if_false, h1, h2, g, Gk_v, Gk_n, xcat_nil, xcat_i, xcat_r, xcat_l, xcat_d, Nat.zero_le, Nat.reduceAdd, Nat.reduceLeDiff, true_and, and_true, ykl_i, ykl_r, ykl_n, ykl_l]
theorem q_116n_0 (C : yCI t D k E s0 s1 n B eo en) (hX : s0 = none) (hz : t.z.1.1 < 900000) : Ra (d + 4) 116 [.ref 0, .int 0] (yemb t) (.inr 3) (yemb t.bp) := by
  intro Q
  have e1 : t.A 0 9 = 0 := by
    rw [C.2.2.1.1.1, hX]
    rfl
  show G (d + 4) 116 0 [some (.ref 0), some (.int 0)] [] (yemb t) Q ↔ _
  simp only [s_116_0, s_116_1, s_116_2, s_116_3, s_116_4, s_116_5, s_116_6, s_116_6i, s_116_9, s_116_10, s_116_11, s_116_12, s_116_13, s_116_14, s_116_15, s_116_16, s_116_17, s_116_18, s_116_19, s_116_19i, s_116_22, s_116_23, s_116_24, s_116_25, s_116_26, s_116_27, s_116_28, s_116_29, s_116_30, s_116_31, s_116_32, s_116_33, s_116_34, s_116_35, s_116_36, s_116_37, s_116_38, s_116_39, s_116_40, yO_0, yO_7, yO_38, e1, show ¬ (0 : Int32) < 0 from by decide, show (0 : Int32) < 2 from by decide, yne10, ne_eq, not_true_eq_false, not_false_eq_true, if_true, if_false, xbump_z hz, xbump_emb, Gk_v, Gk_n, xcat_nil, xcat_i, xcat_r, xcat_l, xcat_d, Nat.zero_le, Nat.reduceAdd, Nat.reduceLeDiff, true_and, and_true, ykl_i, ykl_r, ykl_n, ykl_l]
theorem yCI_s1 {X : yD} (C : yCI t D k E s0 s1 n B eo en) (F : yFr (fun a => 148 ≤ a ∧ a ≤ 148 + 9) t u) (W : yW u 148 X) : yCI (u.s1 0 10 1) D k E s0 (some X) n B eo en := by
  have F' : yFr (fun a => a = 0) u (u.s1 0 10 1) := yFr_s1 rfl
  obtain ⟨C0, ⟨w, H⟩, ⟨⟨a1, a2⟩, a3, a4⟩, ⟨b1, b2, b3⟩, c1, c2⟩ := C
  refine ⟨yW_fr (yW_fr C0 F (fun a h1 h2 (h : 148 ≤ a ∧ a ≤ 148 + 9) => by omega)) F' (fun a h1 h2 (h : a = 0) => by omega), ⟨w, yH1_fr (yH1_fr H F (fun a h => by omega)) F' (fun a h => by omega)⟩, ⟨⟨?_, ?_⟩, fun Y hY => ?_, fun Y hY => ?_⟩, ⟨b1, ?_, fun i hi => ?_⟩, ?_, ?_⟩
  · rw [ys1_upd, yupd_ne (by decide), F.A (by omega)]; exact a1
  · rw [ys1_upd, yupd_same]; rfl
  · exact yW_fr (yW_fr (a3 Y hY) F (fun a h1 h2 (h : 148 ≤ a ∧ a ≤ 148 + 9) => by omega)) F' (fun a h1 h2 (h : a = 0) => by omega)
  · cases hY
    exact yW_fr W F' (fun a h1 h2 (h : a = 0) => by omega)
  · rw [ys1_ne (by decide), F.A (by omega)]; exact b2
  · rw [ys1_ne (by decide), F.A (by omega)]; exact b3 i hi
  · rw [ys1_upd, yupd_ne (by decide), F.A (by omega)]; exact c1
  · rw [ys1_upd, yupd_ne (by decide), F.A (by omega)]; exact c2
theorem q_115_1 (C : yCI t D k E s0 s1 n B eo en) : ∃ u, Ra (d + 4) 115 [.ref 0, .int 1] (yemb t) (.inl (some (.int (ywrongs D)))) (yemb u) ∧ (yCI u D k E s0 (some D) n B eo en ∧ yFr (fun a => a < 160) t u) := by
  obtain ⟨u1, h1, W1, F1⟩ := m_31' (d := d + 3) C.1 (o := 148) yO_148 (by decide)
  have C2 := yCI_s1 C F1 W1
  have g := fun Q' => m_59 (d := d) (Q := Q') C2.1
  refine ⟨_, fun Q => ?_, C2, F1.trans (yFr_s1 (P := fun a => a = 0) rfl) (fun a h => by omega)⟩
  show G (d + 4) 115 0 [some (.ref 0), some (.int 1)] [] (yemb t) Q ↔ _
  simp only [s_115_0, s_115_1, s_115_2, s_115_3, s_115_4, s_115_5, s_115_6, s_115_6i, s_115_9, s_115_10, s_115_11, s_115_12, s_115_13, s_115_14, s_115_15, s_115_16, s_115_17, s_115_18, s_115_19, s_115_20, s_115_21, s_115_22, s_115_23, s_115_24, s_115_25, s_115_26, s_115_27, s_115_28, s_115_29, s_115_30, s_115_31, yO_0, yO_7, yO_148, show ¬ (1 : Int32) < 0 from by decide, show (1 : Int32) < 2 from by decide, yne10, ne_eq, not_true_eq_false, not_false_eq_true, if_true, if_false, ybo_1, h1, g, Gk_v, Gk_n, xcat_nil, xcat_i, xcat_r, xcat_l, xcat_d, Nat.zero_le, Nat.reduceAdd, Nat.reduceLeDiff, true_and, and_true, ykl_i, ykl_r, ykl_n, ykl_l]
theorem q_116_1 (C : yCI t D k E s0 s1 n B eo en) {X : yD} (hX : s1 = some X) : ∃ u, Ra (d + 4) 116 [.ref 0, .int 1] (yemb t) (.inl (some (.int (ywrongs X)))) (yemb u) ∧ (yCI u X (min 8 (k + 1)) (ypush D E) s0 s1 n B eo en ∧ yFr (fun a => a < 160) t u) := by
  obtain ⟨u1, h1, C1, F1⟩ := q_6 (d := d + 2) C
  have Wx := C1.2.2.1.2.2 X hX
  obtain ⟨u2, h2, W2, F2⟩ := m_31' (d := d + 3) Wx (o := 7) yO_7 (by decide)
  have g := fun Q' => m_59 (d := d) (Q := Q') W2
  have e1 : t.A 0 10 = 1 := by
    rw [C.2.2.1.1.2, hX]
    rfl
  refine ⟨u2, fun Q => ?_, yCI_D C1 F2 (fun a h => by omega) W2, F1.trans F2 (fun a h => by omega)⟩
  show G (d + 4) 116 0 [some (.ref 0), some (.int 1)] [] (yemb t) Q ↔ _
  simp only [s_116_0, s_116_1, s_116_2, s_116_3, s_116_4, s_116_5, s_116_6, s_116_6i, s_116_9, s_116_10, s_116_11, s_116_12, s_116_13, s_116_14, s_116_15, s_116_16, s_116_17, s_116_18, s_116_19, s_116_19i, s_116_22, s_116_23, s_116_24, s_116_25, s_116_26, s_116_27, s_116_28, s_116_29, s_116_30, s_116_31, s_116_32, s_116_33, s_116_34, s_116_35, s_116_36, s_116_37, s_116_38, s_116_39, s_116_40, yO_0, yO_7, yO_38, e1, show ¬ (1 : Int32) < 0 from by decide, show (1 : Int32) < 2 from by decide, yne10, ne_eq, not_true_eq_false, not_false_eq_true, if_true, if_false, h1, h2, g, Gk_v, Gk_n, xcat_nil, xcat_i, xcat_r, xcat_l, xcat_d, Nat.zero_le, Nat.reduceAdd, Nat.reduceLeDiff, true_and, and_true, ykl_i, ykl_r, ykl_n, ykl_l]
theorem q_116n_1 (C : yCI t D k E s0 s1 n B eo en) (hX : s1 = none) (hz : t.z.1.1 < 900000) : Ra (d + 4) 116 [.ref 0, .int 1] (yemb t) (.inr 3) (yemb t.bp) := by
  intro Q
  have e1 : t.A 0 10 = 0 := by
    rw [C.2.2.1.1.2, hX]
    rfl
  show G (d + 4) 116 0 [some (.ref 0), some (.int 1)] [] (yemb t) Q ↔ _
  simp only [s_116_0, s_116_1, s_116_2, s_116_3, s_116_4, s_116_5, s_116_6, s_116_6i, s_116_9, s_116_10, s_116_11, s_116_12, s_116_13, s_116_14, s_116_15, s_116_16, s_116_17, s_116_18, s_116_19, s_116_19i, s_116_22, s_116_23, s_116_24, s_116_25, s_116_26, s_116_27, s_116_28, s_116_29, s_116_30, s_116_31, s_116_32, s_116_33, s_116_34, s_116_35, s_116_36, s_116_37, s_116_38, s_116_39, s_116_40, yO_0, yO_7, yO_38, e1, show ¬ (1 : Int32) < 0 from by decide, show (1 : Int32) < 2 from by decide, yne10, ne_eq, not_true_eq_false, not_false_eq_true, if_true, if_false, xbump_z hz, xbump_emb, Gk_v, Gk_n, xcat_nil, xcat_i, xcat_r, xcat_l, xcat_d, Nat.zero_le, Nat.reduceAdd, Nat.reduceLeDiff, true_and, and_true, ykl_i, ykl_r, ykl_n, ykl_l]
theorem q_115t {x : Int32} (hx : yin0 1 x = false) (hz : t.z.1.1 < 900000) : Ra (d + 4) 115 [.ref 0, .int x] (yemb t) (.inr 1) (yemb t.bp) := by
  intro Q
  show G (d + 4) 115 0 [some (.ref 0), some (.int x)] [] (yemb t) Q ↔ _
  by_cases h0 : x < 0
  · simp only [s_115_0, s_115_1, s_115_2, s_115_3, s_115_4, s_115_5, s_115_6, s_115_6i, s_115_9, s_115_10, s_115_11, s_115_12, s_115_13, s_115_14, s_115_15, s_115_16, s_115_17, s_115_18, s_115_19, s_115_20, s_115_21, s_115_22, s_115_23, s_115_24, s_115_25, s_115_26, s_115_27, s_115_28, s_115_29, s_115_30, s_115_31, h0, if_true, xbump_z hz, xbump_emb, Gk_v, Gk_n, xcat_nil, xcat_i, xcat_r, xcat_l, xcat_d, Nat.zero_le, Nat.reduceAdd, Nat.reduceLeDiff, true_and, and_true, ykl_i, ykl_r, ykl_n, ykl_l]
  · have h2 := yslot_no hx h0
    simp only [s_115_0, s_115_1, s_115_2, s_115_3, s_115_4, s_115_5, s_115_6, s_115_6i, s_115_9, s_115_10, s_115_11, s_115_12, s_115_13, s_115_14, s_115_15, s_115_16, s_115_17, s_115_18, s_115_19, s_115_20, s_115_21, s_115_22, s_115_23, s_115_24, s_115_25, s_115_26, s_115_27, s_115_28, s_115_29, s_115_30, s_115_31, h0, h2, if_false, xbump_z hz, xbump_emb, Gk_v, Gk_n, xcat_nil, xcat_i, xcat_r, xcat_l, xcat_d, Nat.zero_le, Nat.reduceAdd, Nat.reduceLeDiff, true_and, and_true, ykl_i, ykl_r, ykl_n, ykl_l]
theorem q_116t {x : Int32} (hx : yin0 1 x = false) (hz : t.z.1.1 < 900000) : Ra (d + 4) 116 [.ref 0, .int x] (yemb t) (.inr 1) (yemb t.bp) := by
  intro Q
  show G (d + 4) 116 0 [some (.ref 0), some (.int x)] [] (yemb t) Q ↔ _
  by_cases h0 : x < 0
  · simp only [s_116_0, s_116_1, s_116_2, s_116_3, s_116_4, s_116_5, s_116_6, s_116_6i, s_116_9, s_116_10, s_116_11, s_116_12, s_116_13, s_116_14, s_116_15, s_116_16, s_116_17, s_116_18, s_116_19, s_116_19i, s_116_22, s_116_23, s_116_24, s_116_25, s_116_26, s_116_27, s_116_28, s_116_29, s_116_30, s_116_31, s_116_32, s_116_33, s_116_34, s_116_35, s_116_36, s_116_37, s_116_38, s_116_39, s_116_40, h0, if_true, xbump_z hz, xbump_emb, Gk_v, Gk_n, xcat_nil, xcat_i, xcat_r, xcat_l, xcat_d, Nat.zero_le, Nat.reduceAdd, Nat.reduceLeDiff, true_and, and_true, ykl_i, ykl_r, ykl_n, ykl_l]
  · have h2 := yslot_no hx h0
    simp only [s_116_0, s_116_1, s_116_2, s_116_3, s_116_4, s_116_5, s_116_6, s_116_6i, s_116_9, s_116_10, s_116_11, s_116_12, s_116_13, s_116_14, s_116_15, s_116_16, s_116_17, s_116_18, s_116_19, s_116_19i, s_116_22, s_116_23, s_116_24, s_116_25, s_116_26, s_116_27, s_116_28, s_116_29, s_116_30, s_116_31, s_116_32, s_116_33, s_116_34, s_116_35, s_116_36, s_116_37, s_116_38, s_116_39, s_116_40, h0, h2, if_false, xbump_z hz, xbump_emb, Gk_v, Gk_n, xcat_nil, xcat_i, xcat_r, xcat_l, xcat_d, Nat.zero_le, Nat.reduceAdd, Nat.reduceLeDiff, true_and, and_true, ykl_i, ykl_r, ykl_n, ykl_l]
end

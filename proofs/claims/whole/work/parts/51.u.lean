/-! ===== keep, restore ===== -/
theorem yb_f : yb false = 0 := rfl
theorem yb_t : yb true = 1 := rfl
theorem m_211 {d : Nat} {t : yT} {x : Int32} (h0 : t.A 160 0 = 0) : Ra (d + 1) 211 [.ref 160, .int x] (yemb t) (.inl (some (.int (yb (!yin0 1 x))))) (yemb (if (!yin0 1 x) = true then t.s1 160 0 1 else t)) := by
  intro Q
  show G (d + 1) 211 0 [some (.ref 160), some (.int x)] [] (yemb t) Q ↔ _
  have e : (decide ((0 : Int32) ≤ x ∧ x ≤ 1)) = yin0 1 x := rfl
  cases h : yin0 1 x
  · simp only [s_211_0, s_211_1, s_211_2, s_211_3, s_211_4, s_211_5, s_211_6, s_211_7, s_211_8, s_211_9, s_211_10, s_211_11, yO_160, m_125, e, h, ifbn, m_124t yne10 h0, Bool.false_eq_true, Bool.not_false, if_true, if_false, ybo_1, Gk_v, Gk_n, xcat_nil, xcat_i, xcat_r, xcat_l, xcat_d, Nat.zero_le, Nat.reduceAdd, Nat.reduceLeDiff, true_and, and_true, ykl_i, ykl_r, ykl_n, ykl_l]
    rfl
  · simp only [s_211_0, s_211_1, s_211_2, s_211_3, s_211_4, s_211_5, s_211_6, s_211_7, s_211_8, s_211_9, s_211_10, s_211_11, yO_160, m_125, e, h, ifbn, m_124f yne10 h0, Bool.false_eq_true, Bool.not_true, if_true, if_false, ybo_0, Gk_v, Gk_n, xcat_nil, xcat_i, xcat_r, xcat_l, xcat_d, Nat.zero_le, Nat.reduceAdd, Nat.reduceLeDiff, true_and, and_true, ykl_i, ykl_r, ykl_n, ykl_l]
    rfl
theorem yslot {x : Int32} (h : yin0 1 x = true) : x = 0 ∨ x = 1 := by
  obtain ⟨n, hn, rfl⟩ := yrange (m := 1) (by decide) (of_decide_eq_true h)
  rcases (by omega : n = 0 ∨ n = 1) with h | h <;> subst h
  · exact Or.inl rfl
  · exact Or.inr rfl
theorem yslot_no {x : Int32} (h : yin0 1 x = false) (h0 : ¬ x < 0) : ¬ x < 2 := by
  intro h2
  apply of_decide_eq_false h
  refine ⟨Int32.not_lt.mp h0, ?_⟩
  rw [Int32.le_iff_toInt_le]
  rw [Int32.lt_iff_toInt_lt] at h2
  have e2 : (2 : Int32).toInt = 2 := rfl
  have e1 : (yI 1).toInt = 1 := rfl
  omega
section
variable {d : Nat} {t u : yT} {D : yD} {k : Nat} {E : Nat → yD} {s0 s1 : Option yD} {n : Nat} {B : Nat → Nat} {eo en : Int32}
theorem yH1_fr' {P : Nat → Prop} {w : Nat} (H : yH1 t k w E) (F : yFr P t u) (hP : ∀ a, P a → a ≠ 38 ∧ (a < 40 ∨ 136 ≤ a)) : yH1 u k w E := yH1_fr H F hP
theorem yCI_s0 {X : yD} (C : yCI t D k E s0 s1 n B eo en) (F : yFr (fun a => 136 ≤ a ∧ a ≤ 136 + 9) t u) (W : yW u 136 X) : yCI (u.s1 0 9 1) D k E (some X) s1 n B eo en := by
  have F' : yFr (fun a => a = 0) u (u.s1 0 9 1) := yFr_s1 rfl
  obtain ⟨C0, ⟨w, H⟩, ⟨⟨a1, a2⟩, a3, a4⟩, ⟨b1, b2, b3⟩, c1, c2⟩ := C
  refine ⟨yW_fr (yW_fr C0 F (fun a h1 h2 (h : 136 ≤ a ∧ a ≤ 136 + 9) => by omega)) F' (fun a h1 h2 (h : a = 0) => by omega), ⟨w, yH1_fr (yH1_fr H F (fun a h => by omega)) F' (fun a h => by omega)⟩, ⟨⟨?_, ?_⟩, fun Y hY => ?_, fun Y hY => ?_⟩, ⟨b1, ?_, fun i hi => ?_⟩, ?_, ?_⟩
  · rw [ys1_upd, yupd_same]; rfl
  · rw [ys1_upd, yupd_ne (by decide), F.A (by omega)]; exact a2
  · cases hY
    exact yW_fr W F' (fun a h1 h2 (h : a = 0) => by omega)
  · exact yW_fr (yW_fr (a4 Y hY) F (fun a h1 h2 (h : 136 ≤ a ∧ a ≤ 136 + 9) => by omega)) F' (fun a h1 h2 (h : a = 0) => by omega)
  · rw [ys1_ne (by decide), F.A (by omega)]; exact b2
  · rw [ys1_ne (by decide), F.A (by omega)]; exact b3 i hi
  · rw [ys1_upd, yupd_ne (by decide), F.A (by omega)]; exact c1
  · rw [ys1_upd, yupd_ne (by decide), F.A (by omega)]; exact c2
theorem q_115_0 (C : yCI t D k E s0 s1 n B eo en) : ∃ u, Ra (d + 4) 115 [.ref 0, .int 0] (yemb t) (.inl (some (.int (ywrongs D)))) (yemb u) ∧ (yCI u D k E (some D) s1 n B eo en ∧ yFr (fun a => a < 160) t u) := by
  obtain ⟨u1, h1, W1, F1⟩ := m_31' (d := d + 3) C.1 (o := 136) yO_136 (by decide)
  have C2 := yCI_s0 C F1 W1
  have g := fun Q' => m_59 (d := d) (Q := Q') C2.1
  refine ⟨_, fun Q => ?_, C2, F1.trans (yFr_s1 (P := fun a => a = 0) rfl) (fun a h => by omega)⟩
  show G (d + 4) 115 0 [some (.ref 0), some (.int 0)] [] (yemb t) Q ↔ _
  simp only [s_115_0, s_115_1, s_115_2, s_115_3, s_115_4, s_115_5, s_115_6, s_115_6i, s_115_9, s_115_10, s_115_11, s_115_12, s_115_13, s_115_14, s_115_15, s_115_16, s_115_17, s_115_18, s_115_19, s_115_20, s_115_21, s_115_22, s_115_23, s_115_24, s_115_25, s_115_26, s_115_27, s_115_28, s_115_29, s_115_30, s_115_31, yO_0, yO_7, yO_136, show ¬ (0 : Int32) < 0 from by decide, show (0 : Int32) < 2 from by decide, yne10, ne_eq, not_true_eq_false, not_false_eq_true, if_true, if_false, ybo_1, h1, g, Gk_v, Gk_n, xcat_nil, xcat_i, xcat_r, xcat_l, xcat_d, Nat.zero_le, Nat.reduceAdd, Nat.reduceLeDiff, true_and, and_true, ykl_i, ykl_r, ykl_n, ykl_l]
theorem p_212_0 (M : yMI t D k E s0 s1 n B eo en) : ∃ u, Ra (d + 4) 212 [.ref 160, .int 0] (yemb t) (.inl (some (.int (ywrongs D)))) (yemb u) ∧ (yMI u D k E (some D) s1 n B eo en ∧ (u.A 160 0 = 0 ∧ yFm t u)) := by
  have M0 := yMI_s1 (j := 0) (v := 0) M (by decide)
  have g1 := fun Q' => m_211 (d := d + 2) (t := t.s1 160 0 0) (x := 0) ys1_same Q'
  rw [show yin0 1 0 = true from rfl] at g1
  have M1 : yM (((t.s1 160 0 0).s1 178 0 1).A 162) D := by
    rw [ys1_ne (by decide)]
    exact M0.1
  obtain ⟨u, h2, Mu, F2⟩ := m_127d (d := d + 3) (a := 162) (b := 176) yA_162 yA_176 (by decide) yn_162 yn_176 M1
  have M2 : yM (u.A 162) D := yM_ne M1 F2 (by decide)
  have g := fun Q' => m_173 (d := d) (Q := Q') M2
  have eb : vp_nar .boolean 1 = 1 := rfl
  have hx : yix 0 2 := yix_I (n := 0) (by omega) (by omega)
  have hc : (0 : Int32).toNatClampNeg = 0 := rfl
  have ha := fun (Q' : xR → xS → Prop) (ls : xL) (r : List Value) (s : yT) => gs_a175 (d := d + 4) (ls := ls) (r := r) (t := s) (Q := Q') f_212_19 (show 0 < 2 by decide)
  obtain ⟨-, H, ⟨⟨a1, a2⟩, a3, a4⟩, ⟨b1, b2, b3⟩, c1, c2⟩ := M0
  have e160 : u.A 160 = (t.s1 160 0 0).A 160 := by rw [F2.A (by decide), ys1_ne (by decide)]
  have e178 : u.A 178 = upd ((t.s1 160 0 0).A 178) 0 1 := by rw [F2.A (by decide), ys1_upd]
  have eo' : ∀ a, a ≠ 178 → a ≠ 176 → u.A a = (t.s1 160 0 0).A a := fun a h1 h2 => by rw [F2.A h2, ys1_ne h1]
  refine ⟨u, fun Q => ?_, ⟨M2, yH2_fr H (by rw [e160]) (fun a h1 h2 => eo' a (by omega) (by omega)), ⟨⟨?_, ?_⟩, fun Y hY => ?_, fun Y hY => ?_⟩, ⟨b1, by rw [e160]; exact b2, fun i hi => by rw [eo' 161 (by decide) (by decide)]; exact b3 i hi⟩, by rw [e160]; exact c1, by rw [e160]; exact c2⟩, by rw [e160]; exact ys1_same, yFm_trans (yFm_trans yFm_s1 (yFr_s1 (by omega))) (yFm_fr F2 (fun a h => by omega))⟩
  · show G (d + 4) 212 0 [some (.ref 160), some (.int 0)] [] (yemb t) Q ↔ _
    have ha' : ∀ (Q' : xR → xS → Prop) (ls : xL) (r : List Value) (s : yT), G (d + 4) 212 19 ls (.int 0 :: .ref 175 :: r) (yemb s) Q' ↔ G (d + 4) 212 20 ls (.ref 176 :: r) (yemb s) Q' := ha
    simp only [s_212_0, s_212_1, s_212_2, s_212_3, s_212_4, s_212_5, s_212_6, s_212_7, s_212_8, s_212_9, s_212_10, s_212_11, s_212_12, s_212_13, s_212_14, s_212_15, s_212_16, s_212_17, s_212_18, s_212_20, s_212_21, s_212_22, s_212_23, s_212_24, yO_160, yA_178, yn_178, g1, ifb, Bool.not_true, Bool.false_eq_true, if_true, if_false, hx, hc, eb, ha', h2, g, Gk_v, Gk_n, xcat_nil, xcat_i, xcat_r, xcat_l, xcat_d, Nat.zero_le, Nat.reduceAdd, Nat.reduceLeDiff, true_and, and_true, ykl_i, ykl_r, ykl_n, ykl_l]
  · rw [e178, yupd_same]; rfl
  · rw [e178, yupd_ne (by decide)]; exact a2
  · cases hY; exact Mu
  · rw [eo' 177 (by decide) (by decide)]; exact a4 Y hY
theorem q_116_0 (C : yCI t D k E s0 s1 n B eo en) {X : yD} (hX : s0 = some X) : ∃ u, Ra (d + 4) 116 [.ref 0, .int 0] (yemb t) (.inl (some (.int (ywrongs X)))) (yemb u) ∧ (yCI u X (min 8 (k + 1)) (ypush D E) s0 s1 n B eo en ∧ yFr (fun a => a < 160) t u) := by
  obtain ⟨u1, h1, C1, F1⟩ := q_6 (d := d + 2) C
  have Wx := C1.2.2.1.2.1 X hX
  obtain ⟨u2, h2, W2, F2⟩ := m_31' (d := d + 3) Wx (o := 7) yO_7 (by decide)
  have g := fun Q' => m_59 (d := d) (Q := Q') W2
  have e1 : t.A 0 9 = 1 := by
    rw [C.2.2.1.1.1, hX]
    rfl
  refine ⟨u2, fun Q => ?_, yCI_D C1 F2 (fun a h => by omega) W2, F1.trans F2 (fun a h => by omega)⟩
  show G (d + 4) 116 0 [some (.ref 0), some (.int 0)] [] (yemb t) Q ↔ _
  simp only [s_116_0, s_116_1, s_116_2, s_116_3, s_116_4, s_116_5, s_116_6, s_116_6i, s_116_9, s_116_10, s_116_11, s_116_12, s_116_13, s_116_14, s_116_15, s_116_16, s_116_17, s_116_18, s_116_19, s_116_19i, s_116_22, s_116_23, s_116_24, s_116_25, s_116_26, s_116_27, s_116_28, s_116_29, s_116_30, s_116_31, s_116_32, s_116_33, s_116_34, s_116_35, s_116_36, s_116_37, s_116_38, s_116_39, s_116_40, yO_0, yO_7, yO_38, e1, show ¬ (0 : Int32) < 0 from by decide, show (0 : Int32) < 2 from by decide, yne10, ne_eq, not_true_eq_false, not_false_eq_true, if_true, if_false, h1, h2, g, Gk_v, Gk_n, xcat_nil, xcat_i, xcat_r, xcat_l, xcat_d, Nat.zero_le, Nat.reduceAdd, Nat.reduceLeDiff, true_and, and_true, ykl_i, ykl_r, ykl_n, ykl_l]
theorem q_116n_0 (C : yCI t D k E s0 s1 n B eo en) (hX : s0 = none) (hz : t.z.1.1 < 900000) : Ra (d + 4) 116 [.ref 0, .int 0] (yemb t) (.inr 3) (yemb t.bp) := by
  intro Q
  have e1 : t.A 0 9 = 0 := by
    rw [C.2.2.1.1.1, hX]
    rfl
  show G (d + 4) 116 0 [some (.ref 0), some (.int 0)] [] (yemb t) Q ↔ _
  simp only [s_116_0, s_116_1, s_116_2, s_116_3, s_116_4, s_116_5, s_116_6, s_116_6i, s_116_9, s_116_10, s_116_11, s_116_12, s_116_13, s_116_14, s_116_15, s_116_16, s_116_17, s_116_18, s_116_19, s_116_19i, s_116_22, s_116_23, s_116_24, s_116_25, s_116_26, s_116_27, s_116_28, s_116_29, s_116_30, s_116_31, s_116_32, s_116_33, s_116_34, s_116_35, s_116_36, s_116_37, s_116_38, s_116_39, s_116_40, yO_0, yO_7, yO_38, e1, show ¬ (0 : Int32) < 0 from by decide, show (0 : Int32) < 2 from by decide, yne10, ne_eq, not_true_eq_false, not_false_eq_true, if_true, if_false, xbump_z hz, xbump_emb, Gk_v, Gk_n, xcat_nil, xcat_i, xcat_r, xcat_l, xcat_d, Nat.zero_le, Nat.reduceAdd, Nat.reduceLeDiff, true_and, and_true, ykl_i, ykl_r, ykl_n, ykl_l]
theorem p_213_0 (M : yMI t D k E s0 s1 n B eo en) {X : yD} (hX : s0 = some X) : ∃ u, Ra (d + 4) 213 [.ref 160, .int 0] (yemb t) (.inl (some (.int (ywrongs X)))) (yemb u) ∧ (yMI u X (min 8 (k + 1)) (ypush D E) s0 s1 n B eo en ∧ (u.A 160 0 = 0 ∧ yFm t u)) := by
  have M0 := yMI_s1 (j := 0) (v := 0) M (by decide)
  have g1 := fun Q' => m_211 (d := d + 2) (t := t.s1 160 0 0) (x := 0) ys1_same Q'
  rw [show yin0 1 0 = true from rfl] at g1
  obtain ⟨u1, h1, M1, hj, F1⟩ := p_203 (d := d + 2) M0
  rw [ys1_same] at hj
  have Mx := M1.2.2.1.2.1 X hX
  obtain ⟨u2, h2, M2, F2⟩ := m_127d (d := d + 3) (a := 176) (b := 162) yA_176 yA_162 (by decide) yn_176 yn_162 Mx
  have g := fun Q' => m_173 (d := d) (Q := Q') M2
  have e1 : (t.s1 160 0 0).A 178 0 = 1 := by
    rw [M0.2.2.1.1.1, hX]
    rfl
  have hx : yix 0 2 := yix_I (n := 0) (by omega) (by omega)
  have hc : (0 : Int32).toNatClampNeg = 0 := rfl
  have ha' : ∀ (Q' : xR → xS → Prop) (ls : xL) (r : List Value) (s : yT), G (d + 4) 213 26 ls (.int 0 :: .ref 175 :: r) (yemb s) Q' ↔ G (d + 4) 213 27 ls (.ref 176 :: r) (yemb s) Q' := fun Q' ls r s => gs_a175 (d := d + 4) (ls := ls) (r := r) (t := s) (Q := Q') f_213_26 (show 0 < 2 by decide)
  refine ⟨u2, fun Q => ?_, yMI_D M1 F2 (fun a h => by omega) M2, by rw [F2.A (by decide)]; exact hj, yFm_trans (yFm_trans yFm_s1 F1) (yFm_fr F2 (fun a h => by omega))⟩
  show G (d + 4) 213 0 [some (.ref 160), some (.int 0)] [] (yemb t) Q ↔ _
  simp only [s_213_0, s_213_1, s_213_2, s_213_3, s_213_4, s_213_5, s_213_6, s_213_7, s_213_8, s_213_9, s_213_10, s_213_11, s_213_12, s_213_13, s_213_14, s_213_15, s_213_16, s_213_17, s_213_18, s_213_19, s_213_20, s_213_21, s_213_22, s_213_23, s_213_24, s_213_25, s_213_27, s_213_28, s_213_29, s_213_30, s_213_31, s_213_32, s_213_33, yO_160, yA_178, yn_178, g1, yb_f, ifb, Bool.not_true, Bool.false_eq_true, ne_eq, not_true_eq_false, not_false_eq_true, if_true, if_false, hx, hc, e1, yne10, m_124f yne20 ys1_same, h1, ha', h2, g, Gk_v, Gk_n, xcat_nil, xcat_i, xcat_r, xcat_l, xcat_d, Nat.zero_le, Nat.reduceAdd, Nat.reduceLeDiff, true_and, and_true, ykl_i, ykl_r, ykl_n, ykl_l]
theorem p_213n_0 (M : yMI t D k E s0 s1 n B eo en) (hX : s0 = none) : ∃ u, Ra (d + 4) 213 [.ref 160, .int 0] (yemb t) (.inl (some (.int 0))) (yemb u) ∧ (yMI u D k E s0 s1 n B eo en ∧ (u.A 160 0 = 2 ∧ yFm t u)) := by
  have M0 := yMI_s1 (j := 0) (v := 0) M (by decide)
  have g1 := fun Q' => m_211 (d := d + 2) (t := t.s1 160 0 0) (x := 0) ys1_same Q'
  rw [show yin0 1 0 = true from rfl] at g1
  have e1 : (t.s1 160 0 0).A 178 0 = 0 := by
    rw [M0.2.2.1.1.1, hX]
    rfl
  have hx : yix 0 2 := yix_I (n := 0) (by omega) (by omega)
  have hc : (0 : Int32).toNatClampNeg = 0 := rfl
  refine ⟨(t.s1 160 0 0).s1 160 0 2, fun Q => ?_, yMI_s1 M0 (by decide), ys1_same, yFm_trans yFm_s1 yFm_s1⟩
  show G (d + 4) 213 0 [some (.ref 160), some (.int 0)] [] (yemb t) Q ↔ _
  simp only [s_213_0, s_213_1, s_213_2, s_213_3, s_213_4, s_213_5, s_213_6, s_213_7, s_213_8, s_213_9, s_213_10, s_213_11, s_213_12, s_213_13, s_213_14, s_213_15, s_213_16, s_213_17, s_213_18, s_213_19, s_213_20, s_213_21, s_213_22, s_213_23, s_213_24, s_213_25, s_213_27, s_213_28, s_213_29, s_213_30, s_213_31, s_213_32, s_213_33, yO_160, yA_178, yn_178, g1, yb_f, ifb, Bool.not_true, Bool.false_eq_true, ne_eq, not_true_eq_false, not_false_eq_true, if_true, if_false, hx, hc, e1, yne10, m_124t yne20 ys1_same, Gk_v, Gk_n, xcat_nil, xcat_i, xcat_r, xcat_l, xcat_d, Nat.zero_le, Nat.reduceAdd, Nat.reduceLeDiff, true_and, and_true, ykl_i, ykl_r, ykl_n, ykl_l]
theorem yCI_s1 {X : yD} (C : yCI t D k E s0 s1 n B eo en) (F : yFr (fun a => 148 ≤ a ∧ a ≤ 148 + 9) t u) (W : yW u 148 X) : yCI (u.s1 0 10 1) D k E s0 (some X) n B eo en := by
  have F' : yFr (fun a => a = 0) u (u.s1 0 10 1) := yFr_s1 rfl
  obtain ⟨C0, ⟨w, H⟩, ⟨⟨a1, a2⟩, a3, a4⟩, ⟨b1, b2, b3⟩, c1, c2⟩ := C
  refine ⟨yW_fr (yW_fr C0 F (fun a h1 h2 (h : 148 ≤ a ∧ a ≤ 148 + 9) => by omega)) F' (fun a h1 h2 (h : a = 0) => by omega), ⟨w, yH1_fr (yH1_fr H F (fun a h => by omega)) F' (fun a h => by omega)⟩, ⟨⟨?_, ?_⟩, fun Y hY => ?_, fun Y hY => ?_⟩, ⟨b1, ?_, fun i hi => ?_⟩, ?_, ?_⟩
  · rw [ys1_upd, yupd_ne (by decide), F.A (by omega)]; exact a1
  · rw [ys1_upd, yupd_same]; rfl
  · exact yW_fr (yW_fr (a3 Y hY) F (fun a h1 h2 (h : 148 ≤ a ∧ a ≤ 148 + 9) => by omega)) F' (fun a h1 h2 (h : a = 0) => by omega)
  · cases hY
    exact yW_fr W F' (fun a h1 h2 (h : a = 0) => by omega)
  · rw [ys1_ne (by decide), F.A (by omega)]; exact b2
  · rw [ys1_ne (by decide), F.A (by omega)]; exact b3 i hi
  · rw [ys1_upd, yupd_ne (by decide), F.A (by omega)]; exact c1
  · rw [ys1_upd, yupd_ne (by decide), F.A (by omega)]; exact c2
theorem q_115_1 (C : yCI t D k E s0 s1 n B eo en) : ∃ u, Ra (d + 4) 115 [.ref 0, .int 1] (yemb t) (.inl (some (.int (ywrongs D)))) (yemb u) ∧ (yCI u D k E s0 (some D) n B eo en ∧ yFr (fun a => a < 160) t u) := by
  obtain ⟨u1, h1, W1, F1⟩ := m_31' (d := d + 3) C.1 (o := 148) yO_148 (by decide)
  have C2 := yCI_s1 C F1 W1
  have g := fun Q' => m_59 (d := d) (Q := Q') C2.1
  refine ⟨_, fun Q => ?_, C2, F1.trans (yFr_s1 (P := fun a => a = 0) rfl) (fun a h => by omega)⟩
  show G (d + 4) 115 0 [some (.ref 0), some (.int 1)] [] (yemb t) Q ↔ _
  simp only [s_115_0, s_115_1, s_115_2, s_115_3, s_115_4, s_115_5, s_115_6, s_115_6i, s_115_9, s_115_10, s_115_11, s_115_12, s_115_13, s_115_14, s_115_15, s_115_16, s_115_17, s_115_18, s_115_19, s_115_20, s_115_21, s_115_22, s_115_23, s_115_24, s_115_25, s_115_26, s_115_27, s_115_28, s_115_29, s_115_30, s_115_31, yO_0, yO_7, yO_148, show ¬ (1 : Int32) < 0 from by decide, show (1 : Int32) < 2 from by decide, yne10, ne_eq, not_true_eq_false, not_false_eq_true, if_true, if_false, ybo_1, h1, g, Gk_v, Gk_n, xcat_nil, xcat_i, xcat_r, xcat_l, xcat_d, Nat.zero_le, Nat.reduceAdd, Nat.reduceLeDiff, true_and, and_true, ykl_i, ykl_r, ykl_n, ykl_l]
theorem p_212_1 (M : yMI t D k E s0 s1 n B eo en) : ∃ u, Ra (d + 4) 212 [.ref 160, .int 1] (yemb t) (.inl (some (.int (ywrongs D)))) (yemb u) ∧ (yMI u D k E s0 (some D) n B eo en ∧ (u.A 160 0 = 0 ∧ yFm t u)) := by
  have M0 := yMI_s1 (j := 0) (v := 0) M (by decide)
  have g1 := fun Q' => m_211 (d := d + 2) (t := t.s1 160 0 0) (x := 1) ys1_same Q'
  rw [show yin0 1 1 = true from rfl] at g1
  have M1 : yM (((t.s1 160 0 0).s1 178 1 1).A 162) D := by
    rw [ys1_ne (by decide)]
    exact M0.1
  obtain ⟨u, h2, Mu, F2⟩ := m_127d (d := d + 3) (a := 162) (b := 177) yA_162 yA_177 (by decide) yn_162 yn_177 M1
  have M2 : yM (u.A 162) D := yM_ne M1 F2 (by decide)
  have g := fun Q' => m_173 (d := d) (Q := Q') M2
  have eb : vp_nar .boolean 1 = 1 := rfl
  have hx : yix 1 2 := yix_I (n := 1) (by omega) (by omega)
  have hc : (1 : Int32).toNatClampNeg = 1 := rfl
  have ha := fun (Q' : xR → xS → Prop) (ls : xL) (r : List Value) (s : yT) => gs_a175 (d := d + 4) (ls := ls) (r := r) (t := s) (Q := Q') f_212_19 (show 1 < 2 by decide)
  obtain ⟨-, H, ⟨⟨a1, a2⟩, a3, a4⟩, ⟨b1, b2, b3⟩, c1, c2⟩ := M0
  have e160 : u.A 160 = (t.s1 160 0 0).A 160 := by rw [F2.A (by decide), ys1_ne (by decide)]
  have e178 : u.A 178 = upd ((t.s1 160 0 0).A 178) 1 1 := by rw [F2.A (by decide), ys1_upd]
  have eo' : ∀ a, a ≠ 178 → a ≠ 177 → u.A a = (t.s1 160 0 0).A a := fun a h1 h2 => by rw [F2.A h2, ys1_ne h1]
  refine ⟨u, fun Q => ?_, ⟨M2, yH2_fr H (by rw [e160]) (fun a h1 h2 => eo' a (by omega) (by omega)), ⟨⟨?_, ?_⟩, fun Y hY => ?_, fun Y hY => ?_⟩, ⟨b1, by rw [e160]; exact b2, fun i hi => by rw [eo' 161 (by decide) (by decide)]; exact b3 i hi⟩, by rw [e160]; exact c1, by rw [e160]; exact c2⟩, by rw [e160]; exact ys1_same, yFm_trans (yFm_trans yFm_s1 (yFr_s1 (by omega))) (yFm_fr F2 (fun a h => by omega))⟩
  · show G (d + 4) 212 0 [some (.ref 160), some (.int 1)] [] (yemb t) Q ↔ _
    have ha' : ∀ (Q' : xR → xS → Prop) (ls : xL) (r : List Value) (s : yT), G (d + 4) 212 19 ls (.int 1 :: .ref 175 :: r) (yemb s) Q' ↔ G (d + 4) 212 20 ls (.ref 177 :: r) (yemb s) Q' := ha
    simp only [s_212_0, s_212_1, s_212_2, s_212_3, s_212_4, s_212_5, s_212_6, s_212_7, s_212_8, s_212_9, s_212_10, s_212_11, s_212_12, s_212_13, s_212_14, s_212_15, s_212_16, s_212_17, s_212_18, s_212_20, s_212_21, s_212_22, s_212_23, s_212_24, yO_160, yA_178, yn_178, g1, ifb, Bool.not_true, Bool.false_eq_true, if_true, if_false, hx, hc, eb, ha', h2, g, Gk_v, Gk_n, xcat_nil, xcat_i, xcat_r, xcat_l, xcat_d, Nat.zero_le, Nat.reduceAdd, Nat.reduceLeDiff, true_and, and_true, ykl_i, ykl_r, ykl_n, ykl_l]
  · rw [e178, yupd_ne (by decide)]; exact a1
  · rw [e178, yupd_same]; rfl
  · rw [eo' 176 (by decide) (by decide)]; exact a3 Y hY
  · cases hY; exact Mu
theorem q_116_1 (C : yCI t D k E s0 s1 n B eo en) {X : yD} (hX : s1 = some X) : ∃ u, Ra (d + 4) 116 [.ref 0, .int 1] (yemb t) (.inl (some (.int (ywrongs X)))) (yemb u) ∧ (yCI u X (min 8 (k + 1)) (ypush D E) s0 s1 n B eo en ∧ yFr (fun a => a < 160) t u) := by
  obtain ⟨u1, h1, C1, F1⟩ := q_6 (d := d + 2) C
  have Wx := C1.2.2.1.2.2 X hX
  obtain ⟨u2, h2, W2, F2⟩ := m_31' (d := d + 3) Wx (o := 7) yO_7 (by decide)
  have g := fun Q' => m_59 (d := d) (Q := Q') W2
  have e1 : t.A 0 10 = 1 := by
    rw [C.2.2.1.1.2, hX]
    rfl
  refine ⟨u2, fun Q => ?_, yCI_D C1 F2 (fun a h => by omega) W2, F1.trans F2 (fun a h => by omega)⟩
  show G (d + 4) 116 0 [some (.ref 0), some (.int 1)] [] (yemb t) Q ↔ _
  simp only [s_116_0, s_116_1, s_116_2, s_116_3, s_116_4, s_116_5, s_116_6, s_116_6i, s_116_9, s_116_10, s_116_11, s_116_12, s_116_13, s_116_14, s_116_15, s_116_16, s_116_17, s_116_18, s_116_19, s_116_19i, s_116_22, s_116_23, s_116_24, s_116_25, s_116_26, s_116_27, s_116_28, s_116_29, s_116_30, s_116_31, s_116_32, s_116_33, s_116_34, s_116_35, s_116_36, s_116_37, s_116_38, s_116_39, s_116_40, yO_0, yO_7, yO_38, e1, show ¬ (1 : Int32) < 0 from by decide, show (1 : Int32) < 2 from by decide, yne10, ne_eq, not_true_eq_false, not_false_eq_true, if_true, if_false, h1, h2, g, Gk_v, Gk_n, xcat_nil, xcat_i, xcat_r, xcat_l, xcat_d, Nat.zero_le, Nat.reduceAdd, Nat.reduceLeDiff, true_and, and_true, ykl_i, ykl_r, ykl_n, ykl_l]
theorem q_116n_1 (C : yCI t D k E s0 s1 n B eo en) (hX : s1 = none) (hz : t.z.1.1 < 900000) : Ra (d + 4) 116 [.ref 0, .int 1] (yemb t) (.inr 3) (yemb t.bp) := by
  intro Q
  have e1 : t.A 0 10 = 0 := by
    rw [C.2.2.1.1.2, hX]
    rfl
  show G (d + 4) 116 0 [some (.ref 0), some (.int 1)] [] (yemb t) Q ↔ _
  simp only [s_116_0, s_116_1, s_116_2, s_116_3, s_116_4, s_116_5, s_116_6, s_116_6i, s_116_9, s_116_10, s_116_11, s_116_12, s_116_13, s_116_14, s_116_15, s_116_16, s_116_17, s_116_18, s_116_19, s_116_19i, s_116_22, s_116_23, s_116_24, s_116_25, s_116_26, s_116_27, s_116_28, s_116_29, s_116_30, s_116_31, s_116_32, s_116_33, s_116_34, s_116_35, s_116_36, s_116_37, s_116_38, s_116_39, s_116_40, yO_0, yO_7, yO_38, e1, show ¬ (1 : Int32) < 0 from by decide, show (1 : Int32) < 2 from by decide, yne10, ne_eq, not_true_eq_false, not_false_eq_true, if_true, if_false, xbump_z hz, xbump_emb, Gk_v, Gk_n, xcat_nil, xcat_i, xcat_r, xcat_l, xcat_d, Nat.zero_le, Nat.reduceAdd, Nat.reduceLeDiff, true_and, and_true, ykl_i, ykl_r, ykl_n, ykl_l]
theorem p_213_1 (M : yMI t D k E s0 s1 n B eo en) {X : yD} (hX : s1 = some X) : ∃ u, Ra (d + 4) 213 [.ref 160, .int 1] (yemb t) (.inl (some (.int (ywrongs X)))) (yemb u) ∧ (yMI u X (min 8 (k + 1)) (ypush D E) s0 s1 n B eo en ∧ (u.A 160 0 = 0 ∧ yFm t u)) := by
  have M0 := yMI_s1 (j := 0) (v := 0) M (by decide)
  have g1 := fun Q' => m_211 (d := d + 2) (t := t.s1 160 0 0) (x := 1) ys1_same Q'
  rw [show yin0 1 1 = true from rfl] at g1
  obtain ⟨u1, h1, M1, hj, F1⟩ := p_203 (d := d + 2) M0
  rw [ys1_same] at hj
  have Mx := M1.2.2.1.2.2 X hX
  obtain ⟨u2, h2, M2, F2⟩ := m_127d (d := d + 3) (a := 177) (b := 162) yA_177 yA_162 (by decide) yn_177 yn_162 Mx
  have g := fun Q' => m_173 (d := d) (Q := Q') M2
  have e1 : (t.s1 160 0 0).A 178 1 = 1 := by
    rw [M0.2.2.1.1.2, hX]
    rfl
  have hx : yix 1 2 := yix_I (n := 1) (by omega) (by omega)
  have hc : (1 : Int32).toNatClampNeg = 1 := rfl
  have ha' : ∀ (Q' : xR → xS → Prop) (ls : xL) (r : List Value) (s : yT), G (d + 4) 213 26 ls (.int 1 :: .ref 175 :: r) (yemb s) Q' ↔ G (d + 4) 213 27 ls (.ref 177 :: r) (yemb s) Q' := fun Q' ls r s => gs_a175 (d := d + 4) (ls := ls) (r := r) (t := s) (Q := Q') f_213_26 (show 1 < 2 by decide)
  refine ⟨u2, fun Q => ?_, yMI_D M1 F2 (fun a h => by omega) M2, by rw [F2.A (by decide)]; exact hj, yFm_trans (yFm_trans yFm_s1 F1) (yFm_fr F2 (fun a h => by omega))⟩
  show G (d + 4) 213 0 [some (.ref 160), some (.int 1)] [] (yemb t) Q ↔ _
  simp only [s_213_0, s_213_1, s_213_2, s_213_3, s_213_4, s_213_5, s_213_6, s_213_7, s_213_8, s_213_9, s_213_10, s_213_11, s_213_12, s_213_13, s_213_14, s_213_15, s_213_16, s_213_17, s_213_18, s_213_19, s_213_20, s_213_21, s_213_22, s_213_23, s_213_24, s_213_25, s_213_27, s_213_28, s_213_29, s_213_30, s_213_31, s_213_32, s_213_33, yO_160, yA_178, yn_178, g1, yb_f, ifb, Bool.not_true, Bool.false_eq_true, ne_eq, not_true_eq_false, not_false_eq_true, if_true, if_false, hx, hc, e1, yne10, m_124f yne20 ys1_same, h1, ha', h2, g, Gk_v, Gk_n, xcat_nil, xcat_i, xcat_r, xcat_l, xcat_d, Nat.zero_le, Nat.reduceAdd, Nat.reduceLeDiff, true_and, and_true, ykl_i, ykl_r, ykl_n, ykl_l]
theorem p_213n_1 (M : yMI t D k E s0 s1 n B eo en) (hX : s1 = none) : ∃ u, Ra (d + 4) 213 [.ref 160, .int 1] (yemb t) (.inl (some (.int 0))) (yemb u) ∧ (yMI u D k E s0 s1 n B eo en ∧ (u.A 160 0 = 2 ∧ yFm t u)) := by
  have M0 := yMI_s1 (j := 0) (v := 0) M (by decide)
  have g1 := fun Q' => m_211 (d := d + 2) (t := t.s1 160 0 0) (x := 1) ys1_same Q'
  rw [show yin0 1 1 = true from rfl] at g1
  have e1 : (t.s1 160 0 0).A 178 1 = 0 := by
    rw [M0.2.2.1.1.2, hX]
    rfl
  have hx : yix 1 2 := yix_I (n := 1) (by omega) (by omega)
  have hc : (1 : Int32).toNatClampNeg = 1 := rfl
  refine ⟨(t.s1 160 0 0).s1 160 0 2, fun Q => ?_, yMI_s1 M0 (by decide), ys1_same, yFm_trans yFm_s1 yFm_s1⟩
  show G (d + 4) 213 0 [some (.ref 160), some (.int 1)] [] (yemb t) Q ↔ _
  simp only [s_213_0, s_213_1, s_213_2, s_213_3, s_213_4, s_213_5, s_213_6, s_213_7, s_213_8, s_213_9, s_213_10, s_213_11, s_213_12, s_213_13, s_213_14, s_213_15, s_213_16, s_213_17, s_213_18, s_213_19, s_213_20, s_213_21, s_213_22, s_213_23, s_213_24, s_213_25, s_213_27, s_213_28, s_213_29, s_213_30, s_213_31, s_213_32, s_213_33, yO_160, yA_178, yn_178, g1, yb_f, ifb, Bool.not_true, Bool.false_eq_true, ne_eq, not_true_eq_false, not_false_eq_true, if_true, if_false, hx, hc, e1, yne10, m_124t yne20 ys1_same, Gk_v, Gk_n, xcat_nil, xcat_i, xcat_r, xcat_l, xcat_d, Nat.zero_le, Nat.reduceAdd, Nat.reduceLeDiff, true_and, and_true, ykl_i, ykl_r, ykl_n, ykl_l]
theorem q_115t {x : Int32} (hx : yin0 1 x = false) (hz : t.z.1.1 < 900000) : Ra (d + 4) 115 [.ref 0, .int x] (yemb t) (.inr 1) (yemb t.bp) := by
  intro Q
  show G (d + 4) 115 0 [some (.ref 0), some (.int x)] [] (yemb t) Q ↔ _
  by_cases h0 : x < 0
  · simp only [s_115_0, s_115_1, s_115_2, s_115_3, s_115_4, s_115_5, s_115_6, s_115_6i, s_115_9, s_115_10, s_115_11, s_115_12, s_115_13, s_115_14, s_115_15, s_115_16, s_115_17, s_115_18, s_115_19, s_115_20, s_115_21, s_115_22, s_115_23, s_115_24, s_115_25, s_115_26, s_115_27, s_115_28, s_115_29, s_115_30, s_115_31, h0, if_true, xbump_z hz, xbump_emb, Gk_v, Gk_n, xcat_nil, xcat_i, xcat_r, xcat_l, xcat_d, Nat.zero_le, Nat.reduceAdd, Nat.reduceLeDiff, true_and, and_true, ykl_i, ykl_r, ykl_n, ykl_l]
  · have h2 := yslot_no hx h0
    simp only [s_115_0, s_115_1, s_115_2, s_115_3, s_115_4, s_115_5, s_115_6, s_115_6i, s_115_9, s_115_10, s_115_11, s_115_12, s_115_13, s_115_14, s_115_15, s_115_16, s_115_17, s_115_18, s_115_19, s_115_20, s_115_21, s_115_22, s_115_23, s_115_24, s_115_25, s_115_26, s_115_27, s_115_28, s_115_29, s_115_30, s_115_31, h0, h2, if_false, xbump_z hz, xbump_emb, Gk_v, Gk_n, xcat_nil, xcat_i, xcat_r, xcat_l, xcat_d, Nat.zero_le, Nat.reduceAdd, Nat.reduceLeDiff, true_and, and_true, ykl_i, ykl_r, ykl_n, ykl_l]
theorem p_212t (M : yMI t D k E s0 s1 n B eo en) {x : Int32} (hx : yin0 1 x = false) : ∃ u, Ra (d + 4) 212 [.ref 160, .int x] (yemb t) (.inl (some (.int 0))) (yemb u) ∧ (yMI u D k E s0 s1 n B eo en ∧ (u.A 160 0 = 1 ∧ yFm t u)) := by
  have M0 := yMI_s1 (j := 0) (v := 0) M (by decide)
  have g1 := fun Q' => m_211 (d := d + 2) (t := t.s1 160 0 0) (x := x) ys1_same Q'
  rw [hx] at g1
  refine ⟨(t.s1 160 0 0).s1 160 0 1, fun Q => ?_, yMI_s1 M0 (by decide), ys1_same, yFm_trans yFm_s1 yFm_s1⟩
  show G (d + 4) 212 0 [some (.ref 160), some (.int x)] [] (yemb t) Q ↔ _
  simp only [s_212_0, s_212_1, s_212_2, s_212_3, s_212_4, s_212_5, s_212_6, s_212_7, s_212_8, s_212_9, s_212_10, s_212_11, s_212_12, s_212_13, s_212_14, s_212_15, s_212_16, s_212_17, s_212_18, s_212_20, s_212_21, s_212_22, s_212_23, s_212_24, yO_160, g1, ifb, ifbn, Bool.not_false, if_true, Gk_v, Gk_n, xcat_nil, xcat_i, xcat_r, xcat_l, xcat_d, Nat.zero_le, Nat.reduceAdd, Nat.reduceLeDiff, true_and, and_true, ykl_i, ykl_r, ykl_n, ykl_l]
theorem q_116t {x : Int32} (hx : yin0 1 x = false) (hz : t.z.1.1 < 900000) : Ra (d + 4) 116 [.ref 0, .int x] (yemb t) (.inr 1) (yemb t.bp) := by
  intro Q
  show G (d + 4) 116 0 [some (.ref 0), some (.int x)] [] (yemb t) Q ↔ _
  by_cases h0 : x < 0
  · simp only [s_116_0, s_116_1, s_116_2, s_116_3, s_116_4, s_116_5, s_116_6, s_116_6i, s_116_9, s_116_10, s_116_11, s_116_12, s_116_13, s_116_14, s_116_15, s_116_16, s_116_17, s_116_18, s_116_19, s_116_19i, s_116_22, s_116_23, s_116_24, s_116_25, s_116_26, s_116_27, s_116_28, s_116_29, s_116_30, s_116_31, s_116_32, s_116_33, s_116_34, s_116_35, s_116_36, s_116_37, s_116_38, s_116_39, s_116_40, h0, if_true, xbump_z hz, xbump_emb, Gk_v, Gk_n, xcat_nil, xcat_i, xcat_r, xcat_l, xcat_d, Nat.zero_le, Nat.reduceAdd, Nat.reduceLeDiff, true_and, and_true, ykl_i, ykl_r, ykl_n, ykl_l]
  · have h2 := yslot_no hx h0
    simp only [s_116_0, s_116_1, s_116_2, s_116_3, s_116_4, s_116_5, s_116_6, s_116_6i, s_116_9, s_116_10, s_116_11, s_116_12, s_116_13, s_116_14, s_116_15, s_116_16, s_116_17, s_116_18, s_116_19, s_116_19i, s_116_22, s_116_23, s_116_24, s_116_25, s_116_26, s_116_27, s_116_28, s_116_29, s_116_30, s_116_31, s_116_32, s_116_33, s_116_34, s_116_35, s_116_36, s_116_37, s_116_38, s_116_39, s_116_40, h0, h2, if_false, xbump_z hz, xbump_emb, Gk_v, Gk_n, xcat_nil, xcat_i, xcat_r, xcat_l, xcat_d, Nat.zero_le, Nat.reduceAdd, Nat.reduceLeDiff, true_and, and_true, ykl_i, ykl_r, ykl_n, ykl_l]
theorem p_213t (M : yMI t D k E s0 s1 n B eo en) {x : Int32} (hx : yin0 1 x = false) : ∃ u, Ra (d + 4) 213 [.ref 160, .int x] (yemb t) (.inl (some (.int 0))) (yemb u) ∧ (yMI u D k E s0 s1 n B eo en ∧ (u.A 160 0 = 1 ∧ yFm t u)) := by
  have M0 := yMI_s1 (j := 0) (v := 0) M (by decide)
  have g1 := fun Q' => m_211 (d := d + 2) (t := t.s1 160 0 0) (x := x) ys1_same Q'
  rw [hx] at g1
  refine ⟨(t.s1 160 0 0).s1 160 0 1, fun Q => ?_, yMI_s1 M0 (by decide), ys1_same, yFm_trans yFm_s1 yFm_s1⟩
  show G (d + 4) 213 0 [some (.ref 160), some (.int x)] [] (yemb t) Q ↔ _
  simp only [s_213_0, s_213_1, s_213_2, s_213_3, s_213_4, s_213_5, s_213_6, s_213_7, s_213_8, s_213_9, s_213_10, s_213_11, s_213_12, s_213_13, s_213_14, s_213_15, s_213_16, s_213_17, s_213_18, s_213_19, s_213_20, s_213_21, s_213_22, s_213_23, s_213_24, s_213_25, s_213_27, s_213_28, s_213_29, s_213_30, s_213_31, s_213_32, s_213_33, yO_160, g1, ifb, ifbn, Bool.not_false, if_true, Gk_v, Gk_n, xcat_nil, xcat_i, xcat_r, xcat_l, xcat_d, Nat.zero_le, Nat.reduceAdd, Nat.reduceLeDiff, true_and, and_true, ykl_i, ykl_r, ykl_n, ykl_l]
theorem k_242 (I : yInv t) (hz : t.z.1.1 < 900000) (x : Int32) : ∃ u1 u c v, Ra (d + 5) 242 [.ref 0, .int x, .ref 183] (yemb t) (.inl (some (.int c))) (yemb u1) ∧ (Ra (d + 4) 212 [.ref 160, .int x] (yemb u1) (.inl (some (.int v))) (yemb u) ∧ yOK t u c v.toInt64) := by
  obtain ⟨⟨D, k, E, s0, s1, n, B, eo, en, C, M⟩, Z⟩ := I
  cases hc : yin0 1 x
  · obtain ⟨u, hu, M1, h0, Fm⟩ := p_212t (d := d) (yMI_c M yFc_bp) hc
    exact ⟨_, u, 1, 0, h_242_1 (q_115t hc hz), hu, yOK_of Z yFc_bp (yCI_bp C) Fm M1 h0 (fun h => absurd h yne10)⟩
  · rcases yslot hc with h | h <;> subst h
    · obtain ⟨u1, h1, C1, F1⟩ := q_115_0 (d := d) C
      have Fc := yFc_out (j := 0) (v := (ywrongs D).toInt64) (yFc_fr F1 (fun a h => Or.inl h))
      obtain ⟨u, hu, M1, h0, Fm⟩ := p_212_0 (d := d) (yMI_c M Fc)
      exact ⟨_, u, 0, _, h_242 h1, hu, yOK_of Z Fc (yCI_out C1) Fm M1 h0 (fun _ => yoL)⟩
    · obtain ⟨u1, h1, C1, F1⟩ := q_115_1 (d := d) C
      have Fc := yFc_out (j := 0) (v := (ywrongs D).toInt64) (yFc_fr F1 (fun a h => Or.inl h))
      obtain ⟨u, hu, M1, h0, Fm⟩ := p_212_1 (d := d) (yMI_c M Fc)
      exact ⟨_, u, 0, _, h_242 h1, hu, yOK_of Z Fc (yCI_out C1) Fm M1 h0 (fun _ => yoL)⟩
theorem k_243 (I : yInv t) (hz : t.z.1.1 < 900000) (x : Int32) : ∃ u1 u c v, Ra (d + 5) 243 [.ref 0, .int x, .ref 183] (yemb t) (.inl (some (.int c))) (yemb u1) ∧ (Ra (d + 4) 213 [.ref 160, .int x] (yemb u1) (.inl (some (.int v))) (yemb u) ∧ yOK t u c v.toInt64) := by
  obtain ⟨⟨D, k, E, s0, s1, n, B, eo, en, C, M⟩, Z⟩ := I
  cases hc : yin0 1 x
  · obtain ⟨u, hu, M1, h0, Fm⟩ := p_213t (d := d) (yMI_c M yFc_bp) hc
    exact ⟨_, u, 1, 0, h_243_1 (q_116t hc hz), hu, yOK_of Z yFc_bp (yCI_bp C) Fm M1 h0 (fun h => absurd h yne10)⟩
  · rcases yslot hc with h | h <;> subst h
    · cases hX : s0 with
      | none =>
        obtain ⟨u, hu, M1, h0, Fm⟩ := p_213n_0 (d := d) (yMI_c M yFc_bp) hX
        exact ⟨_, u, 2, 0, h_243_3 (q_116n_0 C hX hz), hu, yOK_of Z yFc_bp (yCI_bp C) Fm M1 h0 (fun h => absurd h yne20)⟩
      | some X =>
        obtain ⟨u1, h1, C1, F1⟩ := q_116_0 (d := d) C hX
        have Fc := yFc_out (j := 0) (v := (ywrongs X).toInt64) (yFc_fr F1 (fun a h => Or.inl h))
        obtain ⟨u, hu, M1, h0, Fm⟩ := p_213_0 (d := d) (yMI_c M Fc) hX
        exact ⟨_, u, 0, _, h_243 h1, hu, yOK_of Z Fc (yCI_out C1) Fm M1 h0 (fun _ => yoL)⟩
    · cases hX : s1 with
      | none =>
        obtain ⟨u, hu, M1, h0, Fm⟩ := p_213n_1 (d := d) (yMI_c M yFc_bp) hX
        exact ⟨_, u, 2, 0, h_243_3 (q_116n_1 C hX hz), hu, yOK_of Z yFc_bp (yCI_bp C) Fm M1 h0 (fun h => absurd h yne20)⟩
      | some X =>
        obtain ⟨u1, h1, C1, F1⟩ := q_116_1 (d := d) C hX
        have Fc := yFc_out (j := 0) (v := (ywrongs X).toInt64) (yFc_fr F1 (fun a h => Or.inl h))
        obtain ⟨u, hu, M1, h0, Fm⟩ := p_213_1 (d := d) (yMI_c M Fc) hX
        exact ⟨_, u, 0, _, h_243 h1, hu, yOK_of Z Fc (yCI_out C1) Fm M1 h0 (fun _ => yoL)⟩
end

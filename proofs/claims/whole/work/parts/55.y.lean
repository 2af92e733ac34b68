/-! ===== wrongIn, the checksum ===== -/
section
variable {d : Nat} {t : yT} {D : yD} {k : Nat} {E : Nat → yD} {s0 s1 : Option yD} {n : Nat} {B : Nat → Nat} {eo en : Int32}
theorem ypasses_same : ∀ m (D X : yD), ysame D X → ysame D (ypasses m X) := by
  intro m
  induction m with
  | zero => intro D X h; exact h
  | succ m ih =>
    intro D X h
    exact ih _ _ (ygo_same _ _ _ _ _ h)
theorem l_104 {T : Nat} (hT : T ≤ 20) : ∀ m i (t : yT) (X : yD), yW t 19 X → i + m = T → ∃ u, Gg (d + 4) 104 22 [some (.ref 0), some (.int (yI T)), some (.int (yI i))] [] (yemb t) 30 [some (.ref 0), some (.int (yI T)), some (.int (yI T))] [] (yemb u) ∧ (yW u 19 (ypasses m X) ∧ yFr (fun a => 19 ≤ a ∧ a ≤ 30) t u) := by
  intro m
  induction m with
  | zero =>
    intro i t X W hi
    have e : i = T := by omega
    have h3 : yI T ≤ yI T := Int32.le_refl _
    refine ⟨t, fun Q => ?_, W, yFr.rfl'⟩
    rw [s_104_22]
    simp only [s_104_0, s_104_1, s_104_2, s_104_3, s_104_4, s_104_5, s_104_6, s_104_7, s_104_7i, s_104_10, s_104_11, s_104_12, s_104_13, s_104_14, s_104_15, s_104_16, s_104_17, s_104_18, s_104_19, s_104_20, s_104_21, s_104_23, s_104_24, s_104_25, s_104_26, s_104_27, s_104_28, s_104_29, s_104_31, s_104_32, s_104_33, e, h3, if_true, Gk_v, Gk_n, xcat_nil, xcat_i, xcat_r, xcat_l, xcat_d, Nat.zero_le, Nat.reduceAdd, Nat.reduceLeDiff, true_and, and_true, ykl_i, ykl_r, ykl_n, ykl_l]
  | succ m ih =>
    intro i t X W hi
    have h3 : ¬ yI T ≤ yI i := fun h => absurd ((yI_le (by omega) (by omega)).mp h) (by omega)
    have h4 : yI i + 1 = yI (i + 1) := yI_add
    obtain ⟨u1, h1, W1, F1⟩ := m_54 (d := d) W
    rw [ytaken_go W.ok] at W1
    obtain ⟨u, hu, Wu, Fu⟩ := ih (i + 1) u1 _ W1 (by omega)
    refine ⟨u, fun Q => ?_, Wu, F1.trans Fu (fun a h => by omega)⟩
    rw [s_104_22]
    simp only [s_104_0, s_104_1, s_104_2, s_104_3, s_104_4, s_104_5, s_104_6, s_104_7, s_104_7i, s_104_10, s_104_11, s_104_12, s_104_13, s_104_14, s_104_15, s_104_16, s_104_17, s_104_18, s_104_19, s_104_20, s_104_21, s_104_23, s_104_24, s_104_25, s_104_26, s_104_27, s_104_28, s_104_29, s_104_31, s_104_32, s_104_33, yO_0, yO_19, h3, if_false, h1, h4, hu, Gk_v, Gk_n, xcat_nil, xcat_i, xcat_r, xcat_l, xcat_d, Nat.zero_le, Nat.reduceAdd, Nat.reduceLeDiff, true_and, and_true, ykl_i, ykl_r, ykl_n, ykl_l]
theorem q_104 (C : yCI t D k E s0 s1 n B eo en) {T : Nat} (hT1 : 1 ≤ T) (hT : T ≤ 20) : ∃ u, Ra (d + 4) 104 [.ref 0, .int (yI T)] (yemb t) (.inl (some (.int (ywrongs (ypasses T (ydue D)))))) (yemb u) ∧ (yCI u D k E s0 s1 n B eo en ∧ yFr (fun a => a < 160) t u) := by
  obtain ⟨u1, h1, W1, F1⟩ := m_31' (d := d + 3) C.1 (o := 19) yO_19 (by decide)
  obtain ⟨u2, h2, W2, F2⟩ := m_53 (d := d) W1
  obtain ⟨u3, h3, W3, F3⟩ := l_104 (d := d) hT T 0 u2 _ W2 (Nat.zero_add _)
  have c1 : ¬ yI T < 1 := fun h => absurd ((yI_lt (m := 1) (by omega) (by decide)).mp h) (by omega)
  have c2 : yI T ≤ 20 := (yI_le (m := 20) (by omega) (by decide)).mpr (by omega)
  have g3 := fun Q' => m_59 (d := d) (Q := Q') W3
  have F : yFr (fun a => (3 ≤ a ∧ a ≤ 5) ∨ (19 ≤ a ∧ a ≤ 30)) t u3 := (F1.trans F2 (P'' := fun a => (3 ≤ a ∧ a ≤ 5) ∨ (19 ≤ a ∧ a ≤ 30)) (fun a h => by omega)).trans F3 (fun a h => by omega)
  refine ⟨u3, fun Q => ?_, yCI_fr C F (fun a h => by omega), F.mono (fun a h => by omega)⟩
  show G (d + 4) 104 0 [some (.ref 0), some (.int (yI T)), none] [] (yemb t) Q ↔ _
  have h3' := h3 Q
  simp only [s_104_0, s_104_1, s_104_2, s_104_3, s_104_4, s_104_5, s_104_6, s_104_7, s_104_7i, s_104_10, s_104_11, s_104_12, s_104_13, s_104_14, s_104_15, s_104_16, s_104_17, s_104_18, s_104_19, s_104_20, s_104_21, yO_0, yO_7, yO_19, c1, c2, if_true, if_false, h1, h2, Gk_v, Gk_n, xcat_nil, xcat_i, xcat_r, xcat_l, xcat_d, Nat.zero_le, Nat.reduceAdd, Nat.reduceLeDiff, true_and, and_true, ykl_i, ykl_r, ykl_n, ykl_l]
  rw [show (0 : Int32) = yI 0 from rfl, h3']
  simp only [s_104_30, s_104_31 yO_0, s_104_32 yO_19, s_104_33, g3, Gk_v, Gk_n, xcat_nil, xcat_i, xcat_r, xcat_l, xcat_d, Nat.zero_le, Nat.reduceAdd, Nat.reduceLeDiff, true_and, and_true, ykl_i, ykl_r, ykl_n, ykl_l]
theorem q_104t {b : Int32} (hb : decide (1 ≤ b ∧ b ≤ 20) = false) (hz : t.z.1.1 < 900000) : Ra (d + 4) 104 [.ref 0, .int b] (yemb t) (.inr 0) (yemb t.bp) := by
  intro Q
  have hb' := of_decide_eq_false hb
  show G (d + 4) 104 0 [some (.ref 0), some (.int b), none] [] (yemb t) Q ↔ _
  by_cases c1 : b < 1
  · simp only [s_104_0, s_104_1, s_104_2, s_104_3, s_104_4, s_104_5, s_104_6, s_104_7, s_104_7i, s_104_10, s_104_11, s_104_12, s_104_13, s_104_14, s_104_15, s_104_16, s_104_17, s_104_18, s_104_19, s_104_20, s_104_21, s_104_22, s_104_23, s_104_24, s_104_25, s_104_26, s_104_27, s_104_28, s_104_29, s_104_30, s_104_31, s_104_32, s_104_33, c1, if_true, xbump_z hz, xbump_emb, Gk_v, Gk_n, xcat_nil, xcat_i, xcat_r, xcat_l, xcat_d, Nat.zero_le, Nat.reduceAdd, Nat.reduceLeDiff, true_and, and_true, ykl_i, ykl_r, ykl_n, ykl_l]
  · have c2 : ¬ b ≤ 20 := fun h => hb' ⟨Int32.not_lt.mp c1, h⟩
    simp only [s_104_0, s_104_1, s_104_2, s_104_3, s_104_4, s_104_5, s_104_6, s_104_7, s_104_7i, s_104_10, s_104_11, s_104_12, s_104_13, s_104_14, s_104_15, s_104_16, s_104_17, s_104_18, s_104_19, s_104_20, s_104_21, s_104_22, s_104_23, s_104_24, s_104_25, s_104_26, s_104_27, s_104_28, s_104_29, s_104_30, s_104_31, s_104_32, s_104_33, c1, c2, if_false, xbump_z hz, xbump_emb, Gk_v, Gk_n, xcat_nil, xcat_i, xcat_r, xcat_l, xcat_d, Nat.zero_le, Nat.reduceAdd, Nat.reduceLeDiff, true_and, and_true, ykl_i, ykl_r, ykl_n, ykl_l]
theorem l_198 {T : Nat} (hT : T ≤ 20) : ∀ m i (t : yT) (X : yD), yM (t.A 162) X → (i = 0 ∨ ydue X = X) → i + m = T → ∃ u, Gg (d + 5) 198 25 [some (.ref 160), some (.int (yI T)), some (.int (yI i))] [] (yemb t) 32 [some (.ref 160), some (.int (yI T)), some (.int (yI T))] [] (yemb u) ∧ (yM (u.A 162) (if m = 0 then X else ypasses m (ydue X)) ∧ yFr (fun a => a = 162 ∨ a = 180) t u) := by
  intro m
  induction m with
  | zero =>
    intro i t X M hd hi
    have e : i = T := by omega
    have h3 : yI T ≤ yI T := Int32.le_refl _
    refine ⟨t, fun Q => ?_, M, yFr.rfl'⟩
    rw [s_198_25]
    simp only [s_198_0, s_198_1, s_198_2, s_198_3, s_198_4, s_198_5, s_198_6, s_198_7, s_198_8, s_198_9, s_198_10, s_198_11, s_198_12, s_198_13, s_198_14, s_198_15, s_198_16, s_198_17, s_198_18, s_198_19, s_198_20, s_198_21, s_198_22, s_198_23, s_198_24, s_198_26, s_198_27, s_198_28, s_198_29, s_198_30, s_198_31, s_198_33, s_198_34, s_198_35, s_198_36, s_198_37, s_198_38, s_198_39, s_198_40, s_198_41, s_198_42, e, h3, if_true, Gk_v, Gk_n, xcat_nil, xcat_i, xcat_r, xcat_l, xcat_d, Nat.zero_le, Nat.reduceAdd, Nat.reduceLeDiff, true_and, and_true, ykl_i, ykl_r, ykl_n, ykl_l]
  | succ m ih =>
    intro i t X M hd hi
    have h3 : ¬ yI T ≤ yI i := fun h => absurd ((yI_le (by omega) (by omega)).mp h) (by omega)
    have h4 : yI i + 1 = yI (i + 1) := yI_add
    obtain ⟨u1, h1, M1, F1⟩ := m_179 (d := d) M
    obtain ⟨u, hu, Mu, Fu⟩ := ih (i + 1) u1 _ M1 (Or.inr (ydue_pass X)) (by omega)
    refine ⟨u, fun Q => ?_, ?_, F1.trans Fu (fun a h => by omega)⟩
    · rw [s_198_25]
      simp only [s_198_0, s_198_1, s_198_2, s_198_3, s_198_4, s_198_5, s_198_6, s_198_7, s_198_8, s_198_9, s_198_10, s_198_11, s_198_12, s_198_13, s_198_14, s_198_15, s_198_16, s_198_17, s_198_18, s_198_19, s_198_20, s_198_21, s_198_22, s_198_23, s_198_24, s_198_26, s_198_27, s_198_28, s_198_29, s_198_30, s_198_31, s_198_33, s_198_34, s_198_35, s_198_36, s_198_37, s_198_38, s_198_39, s_198_40, s_198_41, s_198_42, yO_160, h3, if_false, h1, h4, hu, Gk_v, Gk_n, xcat_nil, xcat_i, xcat_r, xcat_l, xcat_d, Nat.zero_le, Nat.reduceAdd, Nat.reduceLeDiff, true_and, and_true, ykl_i, ykl_r, ykl_n, ykl_l]
    · rw [if_neg (Nat.succ_ne_zero m)]
      rw [ydue_pass X] at Mu
      show yM (u.A 162) (ypasses m (ypassD (ydue X)))
      by_cases hm : m = 0
      · subst hm
        exact Mu
      · rw [if_neg hm] at Mu
        exact Mu
theorem p_198 (M : yMI t D k E s0 s1 n B eo en) {T : Nat} (hT1 : 1 ≤ T) (hT : T ≤ 20) : ∃ u, Ra (d + 5) 198 [.ref 160, .int (yI T)] (yemb t) (.inl (some (.int (ywrongs (ypasses T (ydue D)))))) (yemb u) ∧ (yMI u D k E s0 s1 n B eo en ∧ (u.A 160 0 = 0 ∧ yFm t u)) := by
  have hD := M.1.ok
  have M0 := yMI_s1 (j := 0) (v := 0) M (by decide)
  have c1 : (decide ((1 : Int32) ≤ yI T ∧ yI T ≤ 20)) = true := decide_eq_true ⟨(yI_le (n := 1) (by decide) (by omega)).mpr hT1, (yI_le (m := 20) (by omega) (by decide)).mpr (by omega)⟩
  have n162 : (340 : Nat) ≤ yn 162 := by rw [yn_162]; omega
  have n164 : (340 : Nat) ≤ yn 164 := by rw [yn_164]; omega
  have h1 := fun Q' => m_127 (d := d + 4) (n := 340) yA_162 yA_164 (by decide) n162 n164 (by decide) (t.s1 160 0 0) Q'
  generalize hT' : (t.s1 160 0 0).sA 164 (fun j => if j < 340 then (t.s1 160 0 0).A 162 j else (t.s1 160 0 0).A 164 j) = t1 at *
  have F1 : yFr (fun a => a = 164) (t.s1 160 0 0) t1 := by
    rw [← hT']
    exact yFr_sA rfl
  have M1 : yM (t1.A 162) D := by
    rw [F1.A (by decide)]
    exact M0.1
  obtain ⟨u3, h3, M3, F3⟩ := l_198 (d := d) hT T 0 t1 D M1 (Or.inl rfl) (Nat.zero_add _)
  rw [if_neg (by omega)] at M3
  have g4 := fun Q' => m_173 (d := d + 1) (Q := Q') M3
  have h5 := fun Q' => m_127 (d := d + 4) (n := 340) yA_164 yA_162 (by decide) n164 n162 (by decide) u3 Q'
  have e164 : u3.A 164 = t1.A 164 := by rw [F3.A (by omega)]
  have hps := ypasses_same T (ydue D) (ydue D) ysame_rfl
  have eu := ydue_eq D
  have Mb : yM ((u3.sA 162 (fun j => if j < 340 then u3.A 164 j else u3.A 162 j)).A 162) D := by
    refine ⟨hD, ?_⟩
    refine yN_back hD M0.1.v M3.v ?_ ?_ (fun j => ?_)
    · rw [hps.2.2.2.2.2.2.2.2.2.2.2.1, eu, ysdu_cn]
    · rw [hps.2.2.2.2.2.2.2.2.2.2.2.2, eu, ysdu_cg]
    · rw [ysA_same, e164, ← hT', ysA_same]
      by_cases hj : j < 340
      · simp only [hj, if_true]
      · simp only [hj, if_false]
  have F4 : yFr (fun a => a = 162) u3 (u3.sA 162 (fun j => if j < 340 then u3.A 164 j else u3.A 162 j)) := yFr_sA rfl
  have Ft : yFr (fun a => a = 162 ∨ a = 164 ∨ a = 180) (t.s1 160 0 0) (u3.sA 162 (fun j => if j < 340 then u3.A 164 j else u3.A 162 j)) :=
    (F1.trans F3 (P'' := fun a => a = 162 ∨ a = 164 ∨ a = 180) (fun a h => by omega)).trans F4 (fun a h => by omega)
  refine ⟨_, fun Q => ?_, yMI_D M0 Ft (fun a h => by omega) Mb, by rw [Ft.A (by omega)]; exact ys1_same, yFm_trans yFm_s1 (yFm_fr Ft (fun a h => by omega))⟩
  show G (d + 5) 198 0 [some (.ref 160), some (.int (yI T)), none] [] (yemb t) Q ↔ _
  have h3' := h3 Q
  have c340 : yI 340 = 340 := rfl
  rw [c340] at h1 h5
  simp only [s_198_0, s_198_1, s_198_2, s_198_3, s_198_4, s_198_5, s_198_6, s_198_7, s_198_8, s_198_9, s_198_10, s_198_11, s_198_12, s_198_13, s_198_14, s_198_15, s_198_16, s_198_17, s_198_18, s_198_19, s_198_20, s_198_21, s_198_22, s_198_23, s_198_24, yO_160, m_125, c1, ifbn, if_true, m_124f yne10 ys1_same, h1, Gk_v, Gk_n, xcat_nil, xcat_i, xcat_r, xcat_l, xcat_d, Nat.zero_le, Nat.reduceAdd, Nat.reduceLeDiff, true_and, and_true, ykl_i, ykl_r, ykl_n, ykl_l]
  rw [show (0 : Int32) = yI 0 from rfl, h3']
  simp only [s_198_32, s_198_33 yO_160, s_198_34, s_198_35, s_198_36 yO_160, s_198_37, s_198_38 yO_160, s_198_39, s_198_40, s_198_41, s_198_42, g4, h5, Gk_v, Gk_n, xcat_nil, xcat_i, xcat_r, xcat_l, xcat_d, Nat.zero_le, Nat.reduceAdd, Nat.reduceLeDiff, true_and, and_true, ykl_i, ykl_r, ykl_n, ykl_l]
theorem p_198t (M : yMI t D k E s0 s1 n B eo en) {b : Int32} (hb : decide (1 ≤ b ∧ b ≤ 20) = false) : ∃ u, Ra (d + 5) 198 [.ref 160, .int b] (yemb t) (.inl (some (.int 0))) (yemb u) ∧ (yMI u D k E s0 s1 n B eo en ∧ (u.A 160 0 = 1 ∧ yFm t u)) := by
  refine ⟨(t.s1 160 0 0).s1 160 0 1, fun Q => ?_, yMI_s1 (yMI_s1 M (by decide)) (by decide), ys1_same, yFm_trans yFm_s1 yFm_s1⟩
  show G (d + 5) 198 0 [some (.ref 160), some (.int b), none] [] (yemb t) Q ↔ _
  simp only [s_198_0, s_198_1, s_198_2, s_198_3, s_198_4, s_198_5, s_198_6, s_198_7, s_198_8, s_198_9, s_198_10, s_198_11, s_198_12, s_198_13, s_198_14, s_198_15, s_198_16, s_198_17, s_198_18, s_198_19, s_198_20, s_198_21, s_198_22, s_198_23, s_198_24, s_198_25, s_198_26, s_198_27, s_198_28, s_198_29, s_198_30, s_198_31, s_198_32, s_198_33, s_198_34, s_198_35, s_198_36, s_198_37, s_198_38, s_198_39, s_198_40, s_198_41, s_198_42, yO_160, m_125, hb, ifbn, Bool.false_eq_true, if_false, m_124t yne10 ys1_same, yne10, Gk_v, Gk_n, xcat_nil, xcat_i, xcat_r, xcat_l, xcat_d, Nat.zero_le, Nat.reduceAdd, Nat.reduceLeDiff, true_and, and_true, ykl_i, ykl_r, ykl_n, ykl_l]
theorem k_233 (I : yInv t) (hz : t.z.1.1 < 900000) (l : Int32) : ∃ u1 u c b, Ra (d + 5) 233 [.ref 0, .int l, .ref 183] (yemb t) (.inl (some (.int c))) (yemb u1) ∧ (Ra (d + 5) 198 [.ref 160, .int l] (yemb u1) (.inl (some (.int b))) (yemb u) ∧ yOK t u c b.toInt64) := by
  obtain ⟨⟨D, k, E, s0, s1, n, B, eo, en, C, M⟩, Z⟩ := I
  cases hc : decide (1 ≤ l ∧ l ≤ 20)
  · obtain ⟨u, hu, M1, h0, Fm⟩ := p_198t (d := d) (yMI_c M yFc_bp) hc
    exact ⟨_, u, 1, 0, h_233_0 (q_104t hc hz), hu, yOK_of Z yFc_bp (yCI_bp C) Fm M1 h0 (fun h => absurd h yne10)⟩
  · have hc' := of_decide_eq_true hc
    obtain ⟨b, hb, rfl⟩ := yrange (x := l) (m := 20) (by decide) ⟨Int32.le_trans (by decide) hc'.1, hc'.2⟩
    have hb1 : 1 ≤ b := (yI_le (n := 1) (by decide) (by omega)).mp hc'.1
    obtain ⟨u1, h1, C1, F1⟩ := q_104 (d := d) C hb1 hb
    have Fc := yFc_out (j := 0) (v := (ywrongs (ypasses b (ydue D))).toInt64) (yFc_fr F1 (fun a h => Or.inl h))
    obtain ⟨u, hu, M1, h0, Fm⟩ := p_198 (d := d) (yMI_c M Fc) hb1 hb
    exact ⟨_, u, 0, _, h_233 h1, hu, yOK_of Z Fc (yCI_out C1) Fm M1 h0 (fun _ => yoL)⟩
/- the checksum -/
def yck1 (D : yD) : Nat → Nat → Int64 → Int64 := yfold (fun w a => 31 * a + (ytS D w).toInt64)
def yck2 (D : yD) : Nat → Nat → Int64 → Int64 := yfold (fun p a => yfold (fun w a => 31 * a + (ytP D p w).toInt64) 9 0 a)
def yck3 (D : yD) : Nat → Nat → Int64 → Int64 := yfold (fun g a => yfold (fun w a => 31 * a + (ytF' D g w).toInt64) 4 0 a)
def ysum (D : yD) : Int64 := yck3 D D.f 0 (yck2 D D.n 0 (yck1 D 10 0 0))
theorem l_118a (W : yW t 7 D) : ∀ m w a l4, w + m = 10 → Gg (d + 6) 118 4 [some (.ref 0), some (.long a), none, some (.int (yI w)), l4] [] (yemb t) 18 [some (.ref 0), some (.long (yck1 D m w a)), none, some (.int (yI 10)), l4] [] (yemb t) := by
  intro m
  induction m with
  | zero =>
    intro w a l4 hw Q
    have e : w = 10 := by omega
    subst e
    rw [s_118_4]
    simp only [s_118_0, s_118_1, s_118_2, s_118_3, s_118_5, s_118_6, s_118_7, s_118_8, s_118_9, s_118_10, s_118_11, s_118_12, s_118_13, s_118_14, s_118_15, s_118_16, s_118_17, s_118_19, s_118_20, s_118_21, s_118_22, s_118_23, s_118_24, s_118_25, s_118_26, s_118_27, s_118_28, s_118_29, s_118_30, s_118_31, s_118_32, s_118_33, s_118_34, s_118_35, s_118_36, s_118_37, s_118_38, s_118_39, s_118_40, s_118_41, s_118_42, s_118_43, s_118_44, s_118_45, s_118_46, s_118_47, s_118_48, s_118_49, s_118_50, s_118_51, s_118_52, s_118_53, s_118_54, s_118_55, s_118_56, s_118_57, s_118_58, s_118_59, s_118_60, s_118_61, s_118_62, s_118_63, s_118_64, s_118_65, s_118_66, s_118_67, s_118_68, s_118_69, s_118_70, s_118_71, show (9 : Int32) < yI 10 from by decide, if_true, Gk_v, Gk_n, xcat_nil, xcat_i, xcat_r, xcat_l, xcat_d, Nat.zero_le, Nat.reduceAdd, Nat.reduceLeDiff, true_and, and_true, ykl_i, ykl_r, ykl_n, ykl_l]
    rfl
  | succ m ih =>
    intro w a l4 hw Q
    have h3 : ¬ (9 : Int32) < yI w := fun h => absurd ((yI_lt (n := 9) (by decide) (by omega)).mp h) (by omega)
    have h4 : yI w + 1 = yI (w + 1) := yI_add
    have g := fun Q' => m_99 (d := d) W (w := w) (by omega) Q'
    have hi := ih (w + 1) (31 * a + (ytS D w).toInt64) l4 (by omega) Q
    rw [s_118_4]
    simp only [s_118_0, s_118_1, s_118_2, s_118_3, s_118_5, s_118_6, s_118_7, s_118_8, s_118_9, s_118_10, s_118_11, s_118_12, s_118_13, s_118_14, s_118_15, s_118_16, s_118_17, s_118_19, s_118_20, s_118_21, s_118_22, s_118_23, s_118_24, s_118_25, s_118_26, s_118_27, s_118_28, s_118_29, s_118_30, s_118_31, s_118_32, s_118_33, s_118_34, s_118_35, s_118_36, s_118_37, s_118_38, s_118_39, s_118_40, s_118_41, s_118_42, s_118_43, s_118_44, s_118_45, s_118_46, s_118_47, s_118_48, s_118_49, s_118_50, s_118_51, s_118_52, s_118_53, s_118_54, s_118_55, s_118_56, s_118_57, s_118_58, s_118_59, s_118_60, s_118_61, s_118_62, s_118_63, s_118_64, s_118_65, s_118_66, s_118_67, s_118_68, s_118_69, s_118_70, s_118_71, yO_0, h3, if_false, g, h4, Gk_v, Gk_n, xcat_nil, xcat_i, xcat_r, xcat_l, xcat_d, Nat.zero_le, Nat.reduceAdd, Nat.reduceLeDiff, true_and, and_true, ykl_i, ykl_r, ykl_n, ykl_l]
    exact hi
theorem l_118b (W : yW t 7 D) {p : Nat} (hp : p < D.n) : ∀ m w a, w + m = 9 → Gg (d + 6) 118 27 [some (.ref 0), some (.long a), none, some (.int (yI p)), some (.int (yI w))] [] (yemb t) 42 [some (.ref 0), some (.long (yfold (fun w a => 31 * a + (ytP D p w).toInt64) m w a)), none, some (.int (yI p)), some (.int (yI 9))] [] (yemb t) := by
  have hn40 := W.ok.n40
  have hc : yisp D (yI p) = true := decide_eq_true ⟨(yI_le (n := 0) (by decide) (by omega)).mpr (Nat.zero_le _), (yI_lt (by omega) (by omega)).mpr hp⟩
  intro m
  induction m with
  | zero =>
    intro w a hw Q
    have e : w = 9 := by omega
    subst e
    rw [s_118_27]
    simp only [s_118_0, s_118_1, s_118_2, s_118_3, s_118_4, s_118_5, s_118_6, s_118_7, s_118_8, s_118_9, s_118_10, s_118_11, s_118_12, s_118_13, s_118_14, s_118_15, s_118_16, s_118_17, s_118_18, s_118_19, s_118_20, s_118_21, s_118_22, s_118_23, s_118_24, s_118_25, s_118_26, s_118_28, s_118_29, s_118_30, s_118_31, s_118_32, s_118_33, s_118_34, s_118_35, s_118_36, s_118_37, s_118_38, s_118_39, s_118_40, s_118_41, s_118_43, s_118_44, s_118_45, s_118_46, s_118_47, s_118_48, s_118_49, s_118_50, s_118_51, s_118_52, s_118_53, s_118_54, s_118_55, s_118_56, s_118_57, s_118_58, s_118_59, s_118_60, s_118_61, s_118_62, s_118_63, s_118_64, s_118_65, s_118_66, s_118_67, s_118_68, s_118_69, s_118_70, s_118_71, show (8 : Int32) < yI 9 from by decide, if_true, Gk_v, Gk_n, xcat_nil, xcat_i, xcat_r, xcat_l, xcat_d, Nat.zero_le, Nat.reduceAdd, Nat.reduceLeDiff, true_and, and_true, ykl_i, ykl_r, ykl_n, ykl_l]
    rfl
  | succ m ih =>
    intro w a hw Q
    have h3 : ¬ (8 : Int32) < yI w := fun h => absurd ((yI_lt (n := 8) (by decide) (by omega)).mp h) (by omega)
    have h4 : yI w + 1 = yI (w + 1) := yI_add
    have g := fun Q' => m_100 (d := d) W hp hc (w := w) (by omega) Q'
    have hi := ih (w + 1) (31 * a + (ytP D p w).toInt64) (by omega) Q
    rw [s_118_27]
    simp only [s_118_0, s_118_1, s_118_2, s_118_3, s_118_4, s_118_5, s_118_6, s_118_7, s_118_8, s_118_9, s_118_10, s_118_11, s_118_12, s_118_13, s_118_14, s_118_15, s_118_16, s_118_17, s_118_18, s_118_19, s_118_20, s_118_21, s_118_22, s_118_23, s_118_24, s_118_25, s_118_26, s_118_28, s_118_29, s_118_30, s_118_31, s_118_32, s_118_33, s_118_34, s_118_35, s_118_36, s_118_37, s_118_38, s_118_39, s_118_40, s_118_41, s_118_43, s_118_44, s_118_45, s_118_46, s_118_47, s_118_48, s_118_49, s_118_50, s_118_51, s_118_52, s_118_53, s_118_54, s_118_55, s_118_56, s_118_57, s_118_58, s_118_59, s_118_60, s_118_61, s_118_62, s_118_63, s_118_64, s_118_65, s_118_66, s_118_67, s_118_68, s_118_69, s_118_70, s_118_71, yO_0, h3, if_false, g, h4, Gk_v, Gk_n, xcat_nil, xcat_i, xcat_r, xcat_l, xcat_d, Nat.zero_le, Nat.reduceAdd, Nat.reduceLeDiff, true_and, and_true, ykl_i, ykl_r, ykl_n, ykl_l]
    exact hi
theorem l_118c (W : yW t 7 D) : ∀ m p a l4, p + m = D.n → ∃ l4', Gg (d + 6) 118 20 [some (.ref 0), some (.long a), none, some (.int (yI p)), l4] [] (yemb t) 44 [some (.ref 0), some (.long (yck2 D m p a)), none, some (.int (yI D.n)), l4'] [] (yemb t) := by
  have hn40 := W.ok.n40
  intro m
  induction m with
  | zero =>
    intro p a l4 hp
    have e : p = D.n := by omega
    have h3 : yI D.n ≤ yI D.n := Int32.le_refl _
    refine ⟨l4, fun Q => ?_⟩
    rw [s_118_20]
    simp only [s_118_0, s_118_1, s_118_2, s_118_3, s_118_4, s_118_5, s_118_6, s_118_7, s_118_8, s_118_9, s_118_10, s_118_11, s_118_12, s_118_13, s_118_14, s_118_15, s_118_16, s_118_17, s_118_18, s_118_19, s_118_21, s_118_22, s_118_23, s_118_24, s_118_25, s_118_26, s_118_27, s_118_28, s_118_29, s_118_30, s_118_31, s_118_32, s_118_33, s_118_34, s_118_35, s_118_36, s_118_37, s_118_38, s_118_39, s_118_40, s_118_41, s_118_42, s_118_43, s_118_45, s_118_46, s_118_47, s_118_48, s_118_49, s_118_50, s_118_51, s_118_52, s_118_53, s_118_54, s_118_55, s_118_56, s_118_57, s_118_58, s_118_59, s_118_60, s_118_61, s_118_62, s_118_63, s_118_64, s_118_65, s_118_66, s_118_67, s_118_68, s_118_69, s_118_70, s_118_71, yO_0, yO_7, W.n, e, h3, if_true, Gk_v, Gk_n, xcat_nil, xcat_i, xcat_r, xcat_l, xcat_d, Nat.zero_le, Nat.reduceAdd, Nat.reduceLeDiff, true_and, and_true, ykl_i, ykl_r, ykl_n, ykl_l]
    rfl
  | succ m ih =>
    intro p a l4 hp
    have h3 : ¬ yI D.n ≤ yI p := fun h => absurd ((yI_le (by omega) (by omega)).mp h) (by omega)
    have h4 : yI p + 1 = yI (p + 1) := yI_add
    obtain ⟨l4', hi⟩ := ih (p + 1) (yfold (fun w a => 31 * a + (ytP D p w).toInt64) 9 0 a) (some (.int (yI 9))) (by omega)
    refine ⟨l4', fun Q => ?_⟩
    have hb := l_118b (d := d) W (p := p) (by omega) 9 0 a (by omega) Q
    rw [s_118_20]
    simp only [s_118_0, s_118_1, s_118_2, s_118_3, s_118_4, s_118_5, s_118_6, s_118_7, s_118_8, s_118_9, s_118_10, s_118_11, s_118_12, s_118_13, s_118_14, s_118_15, s_118_16, s_118_17, s_118_18, s_118_19, s_118_21, s_118_22, s_118_23, s_118_24, s_118_25, s_118_26, s_118_45, s_118_46, s_118_47, s_118_48, s_118_49, s_118_50, s_118_51, s_118_52, s_118_53, s_118_54, s_118_55, s_118_56, s_118_57, s_118_58, s_118_59, s_118_60, s_118_61, s_118_62, s_118_63, s_118_64, s_118_65, s_118_66, s_118_67, s_118_68, s_118_69, s_118_70, s_118_71, yO_0, yO_7, W.n, h3, if_false, Gk_v, Gk_n, xcat_nil, xcat_i, xcat_r, xcat_l, xcat_d, Nat.zero_le, Nat.reduceAdd, Nat.reduceLeDiff, true_and, and_true, ykl_i, ykl_r, ykl_n, ykl_l]
    rw [show (0 : Int32) = yI 0 from rfl, hb]
    simp only [s_118_42, s_118_43, h4, Gk_v, Gk_n, xcat_nil, xcat_i, xcat_r, xcat_l, xcat_d, Nat.zero_le, Nat.reduceAdd, Nat.reduceLeDiff, true_and, and_true, ykl_i, ykl_r, ykl_n, ykl_l]
    exact hi Q
theorem l_118d (W : yW t 7 D) {p : Nat} (hp : p < D.f) : ∀ m w a, w + m = 4 → Gg (d + 6) 118 53 [some (.ref 0), some (.long a), none, some (.int (yI p)), some (.int (yI w))] [] (yemb t) 68 [some (.ref 0), some (.long (yfold (fun w a => 31 * a + (ytF' D p w).toInt64) m w a)), none, some (.int (yI p)), some (.int (yI 4))] [] (yemb t) := by
  have hf6 := W.ok.f6
  have hc : yisf D (yI p) = true := decide_eq_true ⟨(yI_le (n := 0) (by decide) (by omega)).mpr (Nat.zero_le _), (yI_lt (by omega) (by omega)).mpr hp⟩
  intro m
  induction m with
  | zero =>
    intro w a hw Q
    have e : w = 4 := by omega
    subst e
    rw [s_118_53]
    simp only [s_118_0, s_118_1, s_118_2, s_118_3, s_118_4, s_118_5, s_118_6, s_118_7, s_118_8, s_118_9, s_118_10, s_118_11, s_118_12, s_118_13, s_118_14, s_118_15, s_118_16, s_118_17, s_118_18, s_118_19, s_118_20, s_118_21, s_118_22, s_118_23, s_118_24, s_118_25, s_118_26, s_118_27, s_118_28, s_118_29, s_118_30, s_118_31, s_118_32, s_118_33, s_118_34, s_118_35, s_118_36, s_118_37, s_118_38, s_118_39, s_118_40, s_118_41, s_118_42, s_118_43, s_118_44, s_118_45, s_118_46, s_118_47, s_118_48, s_118_49, s_118_50, s_118_51, s_118_52, s_118_54, s_118_55, s_118_56, s_118_57, s_118_58, s_118_59, s_118_60, s_118_61, s_118_62, s_118_63, s_118_64, s_118_65, s_118_66, s_118_67, s_118_69, s_118_70, s_118_71, show (3 : Int32) < yI 4 from by decide, if_true, Gk_v, Gk_n, xcat_nil, xcat_i, xcat_r, xcat_l, xcat_d, Nat.zero_le, Nat.reduceAdd, Nat.reduceLeDiff, true_and, and_true, ykl_i, ykl_r, ykl_n, ykl_l]
    rfl
  | succ m ih =>
    intro w a hw Q
    have h3 : ¬ (3 : Int32) < yI w := fun h => absurd ((yI_lt (n := 3) (by decide) (by omega)).mp h) (by omega)
    have h4 : yI w + 1 = yI (w + 1) := yI_add
    have g := fun Q' => m_101 (d := d + 1) W hp hc (w := w) (by omega) Q'
    have hi := ih (w + 1) (31 * a + (ytF' D p w).toInt64) (by omega) Q
    rw [s_118_53]
    simp only [s_118_0, s_118_1, s_118_2, s_118_3, s_118_4, s_118_5, s_118_6, s_118_7, s_118_8, s_118_9, s_118_10, s_118_11, s_118_12, s_118_13, s_118_14, s_118_15, s_118_16, s_118_17, s_118_18, s_118_19, s_118_20, s_118_21, s_118_22, s_118_23, s_118_24, s_118_25, s_118_26, s_118_27, s_118_28, s_118_29, s_118_30, s_118_31, s_118_32, s_118_33, s_118_34, s_118_35, s_118_36, s_118_37, s_118_38, s_118_39, s_118_40, s_118_41, s_118_42, s_118_43, s_118_44, s_118_45, s_118_46, s_118_47, s_118_48, s_118_49, s_118_50, s_118_51, s_118_52, s_118_54, s_118_55, s_118_56, s_118_57, s_118_58, s_118_59, s_118_60, s_118_61, s_118_62, s_118_63, s_118_64, s_118_65, s_118_66, s_118_67, s_118_69, s_118_70, s_118_71, yO_0, h3, if_false, g, h4, Gk_v, Gk_n, xcat_nil, xcat_i, xcat_r, xcat_l, xcat_d, Nat.zero_le, Nat.reduceAdd, Nat.reduceLeDiff, true_and, and_true, ykl_i, ykl_r, ykl_n, ykl_l]
    exact hi
theorem l_118e (W : yW t 7 D) : ∀ m p a l4, p + m = D.f → Ga (d + 6) 118 46 [some (.ref 0), some (.long a), none, some (.int (yI p)), l4] [] (yemb t) (.inl (some (.long (yck3 D m p a)))) (yemb t) := by
  have hf6 := W.ok.f6
  intro m
  induction m with
  | zero =>
    intro p a l4 hp Q
    have e : p = D.f := by omega
    have h3 : yI D.f ≤ yI D.f := Int32.le_refl _
    rw [s_118_46]
    simp only [s_118_0, s_118_1, s_118_2, s_118_3, s_118_4, s_118_5, s_118_6, s_118_7, s_118_8, s_118_9, s_118_10, s_118_11, s_118_12, s_118_13, s_118_14, s_118_15, s_118_16, s_118_17, s_118_18, s_118_19, s_118_20, s_118_21, s_118_22, s_118_23, s_118_24, s_118_25, s_118_26, s_118_27, s_118_28, s_118_29, s_118_30, s_118_31, s_118_32, s_118_33, s_118_34, s_118_35, s_118_36, s_118_37, s_118_38, s_118_39, s_118_40, s_118_41, s_118_42, s_118_43, s_118_44, s_118_45, s_118_47, s_118_48, s_118_49, s_118_50, s_118_51, s_118_52, s_118_53, s_118_54, s_118_55, s_118_56, s_118_57, s_118_58, s_118_59, s_118_60, s_118_61, s_118_62, s_118_63, s_118_64, s_118_65, s_118_66, s_118_67, s_118_68, s_118_69, s_118_70, s_118_71, yO_0, yO_7, W.f, e, h3, if_true, Gk_v, Gk_n, xcat_nil, xcat_i, xcat_r, xcat_l, xcat_d, Nat.zero_le, Nat.reduceAdd, Nat.reduceLeDiff, true_and, and_true, ykl_i, ykl_r, ykl_n, ykl_l]
    rfl
  | succ m ih =>
    intro p a l4 hp Q
    have h3 : ¬ yI D.f ≤ yI p := fun h => absurd ((yI_le (by omega) (by omega)).mp h) (by omega)
    have h4 : yI p + 1 = yI (p + 1) := yI_add
    have hi := ih (p + 1) (yfold (fun w a => 31 * a + (ytF' D p w).toInt64) 4 0 a) (some (.int (yI 4))) (by omega) Q
    have hb := l_118d (d := d) W (p := p) (by omega) 4 0 a (by omega) Q
    rw [s_118_46]
    simp only [s_118_0, s_118_1, s_118_2, s_118_3, s_118_4, s_118_5, s_118_6, s_118_7, s_118_8, s_118_9, s_118_10, s_118_11, s_118_12, s_118_13, s_118_14, s_118_15, s_118_16, s_118_17, s_118_18, s_118_19, s_118_20, s_118_21, s_118_22, s_118_23, s_118_24, s_118_25, s_118_26, s_118_27, s_118_28, s_118_29, s_118_30, s_118_31, s_118_32, s_118_33, s_118_34, s_118_35, s_118_36, s_118_37, s_118_38, s_118_39, s_118_40, s_118_41, s_118_42, s_118_43, s_118_44, s_118_45, s_118_47, s_118_48, s_118_49, s_118_50, s_118_51, s_118_52, yO_0, yO_7, W.f, h3, if_false, Gk_v, Gk_n, xcat_nil, xcat_i, xcat_r, xcat_l, xcat_d, Nat.zero_le, Nat.reduceAdd, Nat.reduceLeDiff, true_and, and_true, ykl_i, ykl_r, ykl_n, ykl_l]
    rw [show (0 : Int32) = yI 0 from rfl, hb]
    simp only [s_118_68, s_118_69, h4, Gk_v, Gk_n, xcat_nil, xcat_i, xcat_r, xcat_l, xcat_d, Nat.zero_le, Nat.reduceAdd, Nat.reduceLeDiff, true_and, and_true, ykl_i, ykl_r, ykl_n, ykl_l]
    exact hi
theorem m_118 (W : yW t 7 D) : Ra (d + 6) 118 [.ref 0] (yemb t) (.inl (some (.long (ysum D)))) (yemb t) := by
  intro Q
  have h1 := l_118a (d := d) W 10 0 0 none (by omega) Q
  obtain ⟨l4, h2⟩ := l_118c (d := d) W D.n 0 (yck1 D 10 0 0) none (Nat.zero_add _)
  have h2' := h2 Q
  have h3 := l_118e (d := d) W D.f 0 (yck2 D D.n 0 (yck1 D 10 0 0)) l4 (Nat.zero_add _) Q
  show G (d + 6) 118 0 [some (.ref 0), none, none, none, none] [] (yemb t) Q ↔ _
  simp only [s_118_0, s_118_1, s_118_2, s_118_3, Gk_v, Gk_n, xcat_nil, xcat_i, xcat_r, xcat_l, xcat_d, Nat.zero_le, Nat.reduceAdd, Nat.reduceLeDiff, true_and, and_true, ykl_i, ykl_r, ykl_n, ykl_l]
  rw [show (0 : Int32) = yI 0 from rfl, h1]
  simp only [s_118_18, s_118_19, Gk_v, Gk_n, xcat_nil, xcat_i, xcat_r, xcat_l, xcat_d, Nat.zero_le, Nat.reduceAdd, Nat.reduceLeDiff, true_and, and_true, ykl_i, ykl_r, ykl_n, ykl_l]
  rw [show (0 : Int32) = yI 0 from rfl, h2']
  simp only [s_118_44, s_118_45, Gk_v, Gk_n, xcat_nil, xcat_i, xcat_r, xcat_l, xcat_d, Nat.zero_le, Nat.reduceAdd, Nat.reduceLeDiff, true_and, and_true, ykl_i, ykl_r, ykl_n, ykl_l]
  rw [show (0 : Int32) = yI 0 from rfl, h3]
  rfl
/- the model's checksum -/
theorem l_215a (M : yM (t.A 162) D) : ∀ m w a l4, w + m = 10 → Gg (d + 8) 215 7 [some (.ref 160), some (.long a), none, some (.int (yI w)), l4] [] (yemb t) 21 [some (.ref 160), some (.long (yck1 D m w a)), none, some (.int (yI 10)), l4] [] (yemb t) := by
  intro m
  induction m with
  | zero =>
    intro w a l4 hw Q
    have e : w = 10 := by omega
    subst e
    rw [s_215_7]
    simp only [s_215_0, s_215_1, s_215_2, s_215_3, s_215_4, s_215_5, s_215_6, s_215_8, s_215_9, s_215_10, s_215_11, s_215_12, s_215_13, s_215_14, s_215_15, s_215_16, s_215_17, s_215_18, s_215_19, s_215_20, s_215_22, s_215_23, s_215_24, s_215_25, s_215_26, s_215_27, s_215_28, s_215_29, s_215_30, s_215_31, s_215_32, s_215_33, s_215_34, s_215_35, s_215_36, s_215_37, s_215_38, s_215_39, s_215_40, s_215_41, s_215_42, s_215_43, s_215_44, s_215_45, s_215_46, s_215_47, s_215_48, s_215_49, s_215_50, s_215_51, s_215_52, s_215_53, s_215_54, s_215_55, s_215_56, s_215_57, s_215_58, s_215_59, s_215_60, s_215_61, s_215_62, s_215_63, s_215_64, s_215_65, s_215_66, s_215_67, s_215_68, s_215_69, s_215_70, s_215_71, s_215_72, s_215_73, s_215_74, s_215_75, s_215_76, show (10 : Int32) ≤ yI 10 from by decide, if_true, Gk_v, Gk_n, xcat_nil, xcat_i, xcat_r, xcat_l, xcat_d, Nat.zero_le, Nat.reduceAdd, Nat.reduceLeDiff, true_and, and_true, ykl_i, ykl_r, ykl_n, ykl_l]
    rfl
  | succ m ih =>
    intro w a l4 hw Q
    have h3 : ¬ (10 : Int32) ≤ yI w := fun h => absurd ((yI_le (n := 10) (by decide) (by omega)).mp h) (by omega)
    have h4 : yI w + 1 = yI (w + 1) := yI_add
    have g := fun Q' => m_189 (d := d) M (w := w) (by omega) Q'
    have hi := ih (w + 1) (31 * a + (ytS D w).toInt64) l4 (by omega) Q
    rw [s_215_7]
    simp only [s_215_0, s_215_1, s_215_2, s_215_3, s_215_4, s_215_5, s_215_6, s_215_8, s_215_9, s_215_10, s_215_11, s_215_12, s_215_13, s_215_14, s_215_15, s_215_16, s_215_17, s_215_18, s_215_19, s_215_20, s_215_22, s_215_23, s_215_24, s_215_25, s_215_26, s_215_27, s_215_28, s_215_29, s_215_30, s_215_31, s_215_32, s_215_33, s_215_34, s_215_35, s_215_36, s_215_37, s_215_38, s_215_39, s_215_40, s_215_41, s_215_42, s_215_43, s_215_44, s_215_45, s_215_46, s_215_47, s_215_48, s_215_49, s_215_50, s_215_51, s_215_52, s_215_53, s_215_54, s_215_55, s_215_56, s_215_57, s_215_58, s_215_59, s_215_60, s_215_61, s_215_62, s_215_63, s_215_64, s_215_65, s_215_66, s_215_67, s_215_68, s_215_69, s_215_70, s_215_71, s_215_72, s_215_73, s_215_74, s_215_75, s_215_76, yO_160, h3, if_false, g, h4, Gk_v, Gk_n, xcat_nil, xcat_i, xcat_r, xcat_l, xcat_d, Nat.zero_le, Nat.reduceAdd, Nat.reduceLeDiff, true_and, and_true, ykl_i, ykl_r, ykl_n, ykl_l]
    exact hi
theorem l_215b (M : yM (t.A 162) D) {p : Nat} (hp : p < D.n) : ∀ m w a, w + m = 9 → Gg (d + 8) 215 31 [some (.ref 160), some (.long a), none, some (.int (yI p)), some (.int (yI w))] [] (yemb t) 46 [some (.ref 160), some (.long (yfold (fun w a => 31 * a + (ytP D p w).toInt64) m w a)), none, some (.int (yI p)), some (.int (yI 9))] [] (yemb t) := by
  intro m
  induction m with
  | zero =>
    intro w a hw Q
    have e : w = 9 := by omega
    subst e
    rw [s_215_31]
    simp only [s_215_0, s_215_1, s_215_2, s_215_3, s_215_4, s_215_5, s_215_6, s_215_7, s_215_8, s_215_9, s_215_10, s_215_11, s_215_12, s_215_13, s_215_14, s_215_15, s_215_16, s_215_17, s_215_18, s_215_19, s_215_20, s_215_21, s_215_22, s_215_23, s_215_24, s_215_25, s_215_26, s_215_27, s_215_28, s_215_29, s_215_30, s_215_32, s_215_33, s_215_34, s_215_35, s_215_36, s_215_37, s_215_38, s_215_39, s_215_40, s_215_41, s_215_42, s_215_43, s_215_44, s_215_45, s_215_47, s_215_48, s_215_49, s_215_50, s_215_51, s_215_52, s_215_53, s_215_54, s_215_55, s_215_56, s_215_57, s_215_58, s_215_59, s_215_60, s_215_61, s_215_62, s_215_63, s_215_64, s_215_65, s_215_66, s_215_67, s_215_68, s_215_69, s_215_70, s_215_71, s_215_72, s_215_73, s_215_74, s_215_75, s_215_76, show (9 : Int32) ≤ yI 9 from by decide, if_true, Gk_v, Gk_n, xcat_nil, xcat_i, xcat_r, xcat_l, xcat_d, Nat.zero_le, Nat.reduceAdd, Nat.reduceLeDiff, true_and, and_true, ykl_i, ykl_r, ykl_n, ykl_l]
    rfl
  | succ m ih =>
    intro w a hw Q
    have h3 : ¬ (9 : Int32) ≤ yI w := fun h => absurd ((yI_le (n := 9) (by decide) (by omega)).mp h) (by omega)
    have h4 : yI w + 1 = yI (w + 1) := yI_add
    have g := fun Q' => m_191 (d := d + 1) M hp (w := w) (by omega) Q'
    have hi := ih (w + 1) (31 * a + (ytP D p w).toInt64) (by omega) Q
    rw [s_215_31]
    simp only [s_215_0, s_215_1, s_215_2, s_215_3, s_215_4, s_215_5, s_215_6, s_215_7, s_215_8, s_215_9, s_215_10, s_215_11, s_215_12, s_215_13, s_215_14, s_215_15, s_215_16, s_215_17, s_215_18, s_215_19, s_215_20, s_215_21, s_215_22, s_215_23, s_215_24, s_215_25, s_215_26, s_215_27, s_215_28, s_215_29, s_215_30, s_215_32, s_215_33, s_215_34, s_215_35, s_215_36, s_215_37, s_215_38, s_215_39, s_215_40, s_215_41, s_215_42, s_215_43, s_215_44, s_215_45, s_215_47, s_215_48, s_215_49, s_215_50, s_215_51, s_215_52, s_215_53, s_215_54, s_215_55, s_215_56, s_215_57, s_215_58, s_215_59, s_215_60, s_215_61, s_215_62, s_215_63, s_215_64, s_215_65, s_215_66, s_215_67, s_215_68, s_215_69, s_215_70, s_215_71, s_215_72, s_215_73, s_215_74, s_215_75, s_215_76, yO_160, h3, if_false, g, h4, Gk_v, Gk_n, xcat_nil, xcat_i, xcat_r, xcat_l, xcat_d, Nat.zero_le, Nat.reduceAdd, Nat.reduceLeDiff, true_and, and_true, ykl_i, ykl_r, ykl_n, ykl_l]
    exact hi
theorem l_215c (M : yM (t.A 162) D) : ∀ m p a l4, p + m = D.n → ∃ l4', Gg (d + 8) 215 23 [some (.ref 160), some (.long a), none, some (.int (yI p)), l4] [] (yemb t) 48 [some (.ref 160), some (.long (yck2 D m p a)), none, some (.int (yI D.n)), l4'] [] (yemb t) := by
  have hn40 := M.ok.n40
  intro m
  induction m with
  | zero =>
    intro p a l4 hp
    have e : p = D.n := by omega
    have h3 : yI D.n ≤ yI D.n := Int32.le_refl _
    refine ⟨l4, fun Q => ?_⟩
    rw [s_215_23]
    simp only [s_215_0, s_215_1, s_215_2, s_215_3, s_215_4, s_215_5, s_215_6, s_215_7, s_215_8, s_215_9, s_215_10, s_215_11, s_215_12, s_215_13, s_215_14, s_215_15, s_215_16, s_215_17, s_215_18, s_215_19, s_215_20, s_215_21, s_215_22, s_215_24, s_215_25, s_215_26, s_215_27, s_215_28, s_215_29, s_215_30, s_215_31, s_215_32, s_215_33, s_215_34, s_215_35, s_215_36, s_215_37, s_215_38, s_215_39, s_215_40, s_215_41, s_215_42, s_215_43, s_215_44, s_215_45, s_215_46, s_215_47, s_215_49, s_215_50, s_215_51, s_215_52, s_215_53, s_215_54, s_215_55, s_215_56, s_215_57, s_215_58, s_215_59, s_215_60, s_215_61, s_215_62, s_215_63, s_215_64, s_215_65, s_215_66, s_215_67, s_215_68, s_215_69, s_215_70, s_215_71, s_215_72, s_215_73, s_215_74, s_215_75, s_215_76, yO_160, yA_162, yn_162, yix0, ycl0, M.n, e, h3, if_true, Gk_v, Gk_n, xcat_nil, xcat_i, xcat_r, xcat_l, xcat_d, Nat.zero_le, Nat.reduceAdd, Nat.reduceLeDiff, true_and, and_true, ykl_i, ykl_r, ykl_n, ykl_l]
    rfl
  | succ m ih =>
    intro p a l4 hp
    have h3 : ¬ yI D.n ≤ yI p := fun h => absurd ((yI_le (by omega) (by omega)).mp h) (by omega)
    have h4 : yI p + 1 = yI (p + 1) := yI_add
    obtain ⟨l4', hi⟩ := ih (p + 1) (yfold (fun w a => 31 * a + (ytP D p w).toInt64) 9 0 a) (some (.int (yI 9))) (by omega)
    refine ⟨l4', fun Q => ?_⟩
    have hb := l_215b (d := d) M (p := p) (by omega) 9 0 a (by omega) Q
    rw [s_215_23]
    simp only [s_215_0, s_215_1, s_215_2, s_215_3, s_215_4, s_215_5, s_215_6, s_215_7, s_215_8, s_215_9, s_215_10, s_215_11, s_215_12, s_215_13, s_215_14, s_215_15, s_215_16, s_215_17, s_215_18, s_215_19, s_215_20, s_215_21, s_215_22, s_215_24, s_215_25, s_215_26, s_215_27, s_215_28, s_215_29, s_215_30, s_215_49, s_215_50, s_215_51, s_215_52, s_215_53, s_215_54, s_215_55, s_215_56, s_215_57, s_215_58, s_215_59, s_215_60, s_215_61, s_215_62, s_215_63, s_215_64, s_215_65, s_215_66, s_215_67, s_215_68, s_215_69, s_215_70, s_215_71, s_215_72, s_215_73, s_215_74, s_215_75, s_215_76, yO_160, yA_162, yn_162, yix0, ycl0, M.n, h3, if_false, Gk_v, Gk_n, xcat_nil, xcat_i, xcat_r, xcat_l, xcat_d, Nat.zero_le, Nat.reduceAdd, Nat.reduceLeDiff, true_and, and_true, ykl_i, ykl_r, ykl_n, ykl_l]
    rw [show (0 : Int32) = yI 0 from rfl, hb]
    simp only [s_215_46, s_215_47, h4, Gk_v, Gk_n, xcat_nil, xcat_i, xcat_r, xcat_l, xcat_d, Nat.zero_le, Nat.reduceAdd, Nat.reduceLeDiff, true_and, and_true, ykl_i, ykl_r, ykl_n, ykl_l]
    exact hi Q
theorem l_215d (M : yM (t.A 162) D) {p : Nat} (hp : p < D.f) : ∀ m w a, w + m = 4 → Gg (d + 8) 215 58 [some (.ref 160), some (.long a), none, some (.int (yI p)), some (.int (yI w))] [] (yemb t) 73 [some (.ref 160), some (.long (yfold (fun w a => 31 * a + (ytF' D p w).toInt64) m w a)), none, some (.int (yI p)), some (.int (yI 4))] [] (yemb t) := by
  intro m
  induction m with
  | zero =>
    intro w a hw Q
    have e : w = 4 := by omega
    subst e
    rw [s_215_58]
    simp only [s_215_0, s_215_1, s_215_2, s_215_3, s_215_4, s_215_5, s_215_6, s_215_7, s_215_8, s_215_9, s_215_10, s_215_11, s_215_12, s_215_13, s_215_14, s_215_15, s_215_16, s_215_17, s_215_18, s_215_19, s_215_20, s_215_21, s_215_22, s_215_23, s_215_24, s_215_25, s_215_26, s_215_27, s_215_28, s_215_29, s_215_30, s_215_31, s_215_32, s_215_33, s_215_34, s_215_35, s_215_36, s_215_37, s_215_38, s_215_39, s_215_40, s_215_41, s_215_42, s_215_43, s_215_44, s_215_45, s_215_46, s_215_47, s_215_48, s_215_49, s_215_50, s_215_51, s_215_52, s_215_53, s_215_54, s_215_55, s_215_56, s_215_57, s_215_59, s_215_60, s_215_61, s_215_62, s_215_63, s_215_64, s_215_65, s_215_66, s_215_67, s_215_68, s_215_69, s_215_70, s_215_71, s_215_72, s_215_74, s_215_75, s_215_76, show (4 : Int32) ≤ yI 4 from by decide, if_true, Gk_v, Gk_n, xcat_nil, xcat_i, xcat_r, xcat_l, xcat_d, Nat.zero_le, Nat.reduceAdd, Nat.reduceLeDiff, true_and, and_true, ykl_i, ykl_r, ykl_n, ykl_l]
    rfl
  | succ m ih =>
    intro w a hw Q
    have h3 : ¬ (4 : Int32) ≤ yI w := fun h => absurd ((yI_le (n := 4) (by decide) (by omega)).mp h) (by omega)
    have h4 : yI w + 1 = yI (w + 1) := yI_add
    have g := fun Q' => m_193 (d := d + 3) M hp (w := w) (by omega) Q'
    have hi := ih (w + 1) (31 * a + (ytF' D p w).toInt64) (by omega) Q
    rw [s_215_58]
    simp only [s_215_0, s_215_1, s_215_2, s_215_3, s_215_4, s_215_5, s_215_6, s_215_7, s_215_8, s_215_9, s_215_10, s_215_11, s_215_12, s_215_13, s_215_14, s_215_15, s_215_16, s_215_17, s_215_18, s_215_19, s_215_20, s_215_21, s_215_22, s_215_23, s_215_24, s_215_25, s_215_26, s_215_27, s_215_28, s_215_29, s_215_30, s_215_31, s_215_32, s_215_33, s_215_34, s_215_35, s_215_36, s_215_37, s_215_38, s_215_39, s_215_40, s_215_41, s_215_42, s_215_43, s_215_44, s_215_45, s_215_46, s_215_47, s_215_48, s_215_49, s_215_50, s_215_51, s_215_52, s_215_53, s_215_54, s_215_55, s_215_56, s_215_57, s_215_59, s_215_60, s_215_61, s_215_62, s_215_63, s_215_64, s_215_65, s_215_66, s_215_67, s_215_68, s_215_69, s_215_70, s_215_71, s_215_72, s_215_74, s_215_75, s_215_76, yO_160, h3, if_false, g, h4, Gk_v, Gk_n, xcat_nil, xcat_i, xcat_r, xcat_l, xcat_d, Nat.zero_le, Nat.reduceAdd, Nat.reduceLeDiff, true_and, and_true, ykl_i, ykl_r, ykl_n, ykl_l]
    exact hi
theorem l_215e (M : yM (t.A 162) D) : ∀ m p a l4, p + m = D.f → Ga (d + 8) 215 50 [some (.ref 160), some (.long a), none, some (.int (yI p)), l4] [] (yemb t) (.inl (some (.long (yck3 D m p a)))) (yemb t) := by
  have hf6 := M.ok.f6
  intro m
  induction m with
  | zero =>
    intro p a l4 hp Q
    have e : p = D.f := by omega
    have h3 : yI D.f ≤ yI D.f := Int32.le_refl _
    rw [s_215_50]
    simp only [s_215_0, s_215_1, s_215_2, s_215_3, s_215_4, s_215_5, s_215_6, s_215_7, s_215_8, s_215_9, s_215_10, s_215_11, s_215_12, s_215_13, s_215_14, s_215_15, s_215_16, s_215_17, s_215_18, s_215_19, s_215_20, s_215_21, s_215_22, s_215_23, s_215_24, s_215_25, s_215_26, s_215_27, s_215_28, s_215_29, s_215_30, s_215_31, s_215_32, s_215_33, s_215_34, s_215_35, s_215_36, s_215_37, s_215_38, s_215_39, s_215_40, s_215_41, s_215_42, s_215_43, s_215_44, s_215_45, s_215_46, s_215_47, s_215_48, s_215_49, s_215_51, s_215_52, s_215_53, s_215_54, s_215_55, s_215_56, s_215_57, s_215_58, s_215_59, s_215_60, s_215_61, s_215_62, s_215_63, s_215_64, s_215_65, s_215_66, s_215_67, s_215_68, s_215_69, s_215_70, s_215_71, s_215_72, s_215_73, s_215_74, s_215_75, s_215_76, yO_160, yA_162, yn_162, yix3, ycl3, M.f, e, h3, if_true, Gk_v, Gk_n, xcat_nil, xcat_i, xcat_r, xcat_l, xcat_d, Nat.zero_le, Nat.reduceAdd, Nat.reduceLeDiff, true_and, and_true, ykl_i, ykl_r, ykl_n, ykl_l]
    rfl
  | succ m ih =>
    intro p a l4 hp Q
    have h3 : ¬ yI D.f ≤ yI p := fun h => absurd ((yI_le (by omega) (by omega)).mp h) (by omega)
    have h4 : yI p + 1 = yI (p + 1) := yI_add
    have hi := ih (p + 1) (yfold (fun w a => 31 * a + (ytF' D p w).toInt64) 4 0 a) (some (.int (yI 4))) (by omega) Q
    have hb := l_215d (d := d) M (p := p) (by omega) 4 0 a (by omega) Q
    rw [s_215_50]
    simp only [s_215_0, s_215_1, s_215_2, s_215_3, s_215_4, s_215_5, s_215_6, s_215_7, s_215_8, s_215_9, s_215_10, s_215_11, s_215_12, s_215_13, s_215_14, s_215_15, s_215_16, s_215_17, s_215_18, s_215_19, s_215_20, s_215_21, s_215_22, s_215_23, s_215_24, s_215_25, s_215_26, s_215_27, s_215_28, s_215_29, s_215_30, s_215_31, s_215_32, s_215_33, s_215_34, s_215_35, s_215_36, s_215_37, s_215_38, s_215_39, s_215_40, s_215_41, s_215_42, s_215_43, s_215_44, s_215_45, s_215_46, s_215_47, s_215_48, s_215_49, s_215_51, s_215_52, s_215_53, s_215_54, s_215_55, s_215_56, s_215_57, yO_160, yA_162, yn_162, yix3, ycl3, M.f, h3, if_false, Gk_v, Gk_n, xcat_nil, xcat_i, xcat_r, xcat_l, xcat_d, Nat.zero_le, Nat.reduceAdd, Nat.reduceLeDiff, true_and, and_true, ykl_i, ykl_r, ykl_n, ykl_l]
    rw [show (0 : Int32) = yI 0 from rfl, hb]
    simp only [s_215_73, s_215_74, h4, Gk_v, Gk_n, xcat_nil, xcat_i, xcat_r, xcat_l, xcat_d, Nat.zero_le, Nat.reduceAdd, Nat.reduceLeDiff, true_and, and_true, ykl_i, ykl_r, ykl_n, ykl_l]
    exact hi
theorem k_118 (I : yInv t) : ∃ u v, Ra (d + 6) 118 [.ref 0] (yemb t) (.inl (some (.long v))) (yemb t) ∧ (Ra (d + 8) 215 [.ref 160] (yemb t) (.inl (some (.long v))) (yemb u) ∧ yOK t u 0 (t.L 183 0)) := by
  obtain ⟨⟨D, k, E, s0, s1, n, B, eo, en, C, M⟩, Z⟩ := I
  have M0 := yMI_s1 (j := 0) (v := 0) M (by decide)
  refine ⟨t.s1 160 0 0, ysum D, m_118 (d := d) C.1, fun Q => ?_, yOK_of Z yFc_rfl C yFm_s1 M0 ys1_same (fun _ => rfl)⟩
  have h1 := l_215a (d := d) M0.1 10 0 0 none (by omega) Q
  obtain ⟨l4, h2⟩ := l_215c (d := d) M0.1 D.n 0 (yck1 D 10 0 0) none (Nat.zero_add _)
  have h2' := h2 Q
  have h3 := l_215e (d := d) M0.1 D.f 0 (yck2 D D.n 0 (yck1 D 10 0 0)) l4 (Nat.zero_add _) Q
  show G (d + 8) 215 0 [some (.ref 160), none, none, none, none] [] (yemb t) Q ↔ _
  simp only [s_215_0, s_215_1, s_215_2 yO_160, s_215_3, s_215_4, s_215_5, s_215_6, Gk_v, Gk_n, xcat_nil, xcat_i, xcat_r, xcat_l, xcat_d, Nat.zero_le, Nat.reduceAdd, Nat.reduceLeDiff, true_and, and_true, ykl_i, ykl_r, ykl_n, ykl_l]
  rw [show G (d + 8) 215 7 [some (.ref 160), some (.long 0), none, some (.int 0), none] [] (yemb (t.s1 160 0 0)) Q ↔ _ from h1]
  simp only [s_215_21, s_215_22, Gk_v, Gk_n, xcat_nil, xcat_i, xcat_r, xcat_l, xcat_d, Nat.zero_le, Nat.reduceAdd, Nat.reduceLeDiff, true_and, and_true, ykl_i, ykl_r, ykl_n, ykl_l]
  rw [show G (d + 8) 215 23 [some (.ref 160), some (.long (yck1 D 10 0 0)), none, some (.int 0), none] [] (yemb (t.s1 160 0 0)) Q ↔ _ from h2']
  simp only [s_215_48, s_215_49, Gk_v, Gk_n, xcat_nil, xcat_i, xcat_r, xcat_l, xcat_d, Nat.zero_le, Nat.reduceAdd, Nat.reduceLeDiff, true_and, and_true, ykl_i, ykl_r, ykl_n, ykl_l]
  rw [show G (d + 8) 215 50 [some (.ref 160), some (.long (yck2 D D.n 0 (yck1 D 10 0 0))), none, some (.int 0), l4] [] (yemb (t.s1 160 0 0)) Q ↔ _ from h3]
  rfl
end

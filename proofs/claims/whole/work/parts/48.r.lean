/-! ===== calls that change: level, shift, show, bypass ===== -/
theorem xbump_z {t : yT} (hz : t.z.1.1 < 900000) : (yemb t).2.1.1 < 900000 := hz
theorem yne10 : ¬ (1 : Int32) = 0 := by decide
theorem yne20 : ¬ (2 : Int32) = 0 := by decide
theorem yne30 : ¬ (3 : Int32) = 0 := by decide
theorem yoL {u : yT} {v : Int64} : (u.sL 183 0 v).L 183 0 = v := by
  rw [ysL_same]
  exact vp_updL_same
theorem yrange {x : Int32} {m : Nat} (hm : m < 2147483648) (h : 0 ≤ x ∧ x ≤ yI m) : ∃ n, n ≤ m ∧ x = yI n := by
  obtain ⟨n, hn, rfl⟩ := yI_of (Int32.not_lt.mpr h.1)
  exact ⟨n, (yI_le hn hm).mp h.2, rfl⟩
theorem yDok_slv {D : yD} {l : Nat} (h : yDok D) (hl : l < 256) : yDok (D.slv (yI l)) :=
  ⟨h.n1, h.n40, h.f1, h.f6, h.fp0, h.fpm, h.fpn, h.ogm, h.fll, h.unu, ⟨l, hl, rfl⟩, h.2.2.2.2.2.2.2.2.2.2.2⟩
def yshows : Nat → yD → yD
  | 0, D => D
  | m + 1, D => yshows m (yshowD D)
section
variable {d : Nat} {t : yT} {D : yD} {k : Nat} {E : Nat → yD} {s0 s1 : Option yD} {n : Nat} {B : Nat → Nat} {eo en : Int32}
/- level -/
theorem q_110 (C : yCI t D k E s0 s1 n B eo en) {l : Nat} (hl : l < 256) (hc : ychan (yI l) = true) : ∃ u, Ra (d + 2) 110 [.ref 0, .int (yI l)] (yemb t) (.inl (some (.int D.lv))) (yemb u) ∧ (yCI u (D.slv (yI l)) (min 8 (k + 1)) (ypush D E) s0 s1 n B eo en ∧ yFr (fun a => a < 160) t u) := by
  obtain ⟨u1, h1, C1, F1⟩ := q_6 (d := d) C
  have W2 : yW (u1.s1 7 11 (yI l)) 7 (D.slv (yI l)) := ⟨yDok_slv C.1.ok hl, yV_slv C1.1.v⟩
  refine ⟨u1.s1 7 11 (yI l), fun Q => ?_, yCI_D C1 (yFr_s1 (P := fun a => a = 7) rfl) (fun a h => by omega) W2, F1.trans (yFr_s1 (P := fun a => a = 7) rfl) (fun a h => by omega)⟩
  show G (d + 2) 110 0 [some (.ref 0), some (.int (yI l)), none] [] (yemb t) Q ↔ _
  simp only [s_110_0, s_110_1, s_110_2, s_110_3, s_110_4, s_110_4i, s_110_7, s_110_8, s_110_9, s_110_10, s_110_11, s_110_12, s_110_13, s_110_14, s_110_15, s_110_16, s_110_17, s_110_18, s_110_19, s_110_20, s_110_21, yO_0, yO_7, yO_38, m_119, hc, ifbn, if_true, h1, C1.1.lv, Gk_v, Gk_n, xcat_nil, xcat_i, xcat_r, xcat_l, xcat_d, Nat.zero_le, Nat.reduceAdd, Nat.reduceLeDiff, true_and, and_true, ykl_i, ykl_r, ykl_n, ykl_l]
theorem q_110t {l : Int32} (hc : ychan l = false) (hz : t.z.1.1 < 900000) : Ra (d + 2) 110 [.ref 0, .int l] (yemb t) (.inr 0) (yemb t.bp) := by
  intro Q
  show G (d + 2) 110 0 [some (.ref 0), some (.int l), none] [] (yemb t) Q ↔ _
  simp only [s_110_0, s_110_1, s_110_2, s_110_3, s_110_4, s_110_4i, s_110_7, s_110_8, s_110_9, s_110_10, s_110_11, s_110_12, s_110_13, s_110_14, s_110_15, s_110_16, s_110_17, s_110_18, s_110_19, s_110_20, s_110_21, m_119, hc, ifbn, Bool.false_eq_true, if_false, xbump_z hz, xbump_emb, Gk_v, Gk_n, xcat_nil, xcat_i, xcat_r, xcat_l, xcat_d, Nat.zero_le, Nat.reduceAdd, Nat.reduceLeDiff, true_and, and_true, ykl_i, ykl_r, ykl_n, ykl_l]
theorem p_206 (M : yMI t D k E s0 s1 n B eo en) {l : Nat} (hl : l < 256) (hc : ychan (yI l) = true) : ∃ u, Ra (d + 2) 206 [.ref 160, .int (yI l)] (yemb t) (.inl (some (.int D.lv))) (yemb u) ∧ (yMI u (D.slv (yI l)) (min 8 (k + 1)) (ypush D E) s0 s1 n B eo en ∧ (u.A 160 0 = 0 ∧ yFm t u)) := by
  obtain ⟨u1, h1, M1, hj, F1⟩ := p_203 (d := d) (yMI_s1 (j := 0) (v := 0) M (by decide))
  rw [ys1_same] at hj
  have M2 : yM ((u1.s1 162 2 (yI l)).A 162) (D.slv (yI l)) := ⟨yDok_slv M.1.ok hl, by rw [ys1_upd]; exact yN_slv M1.1.v⟩
  refine ⟨u1.s1 162 2 (yI l), fun Q => ?_, yMI_D M1 (yFr_s1 (P := fun a => a = 162) rfl) (fun a h => by omega) M2, by rw [ys1_ne (by decide)]; exact hj, ((yFr_s1 (P := fun a => a = 160) rfl).trans F1 (P'' := fun a => 160 ≤ a ∧ a ≠ 183) (fun a h => by omega)).trans (yFr_s1 (P := fun a => a = 162) rfl) (fun a h => by omega)⟩
  show G (d + 2) 206 0 [some (.ref 160), some (.int (yI l)), none] [] (yemb t) Q ↔ _
  simp only [s_206_0, s_206_1, s_206_2, s_206_3, s_206_4, s_206_5, s_206_6, s_206_7, s_206_8, s_206_9, s_206_10, s_206_11, s_206_12, s_206_13, s_206_14, s_206_15, s_206_16, s_206_17, s_206_18, s_206_19, s_206_20, s_206_21, s_206_22, s_206_23, s_206_24, s_206_25, s_206_26, s_206_27, s_206_28, yO_160, yA_162, yn_162, yix2, ycl2, m_183, hc, ifbn, if_true, m_124f yne10 ys1_same, h1, M1.1.lv, Gk_v, Gk_n, xcat_nil, xcat_i, xcat_r, xcat_l, xcat_d, Nat.zero_le, Nat.reduceAdd, Nat.reduceLeDiff, true_and, and_true, ykl_i, ykl_r, ykl_n, ykl_l]
theorem p_206t (M : yMI t D k E s0 s1 n B eo en) {l : Int32} (hc : ychan l = false) : ∃ u, Ra (d + 2) 206 [.ref 160, .int l] (yemb t) (.inl (some (.int 0))) (yemb u) ∧ (yMI u D k E s0 s1 n B eo en ∧ (u.A 160 0 = 1 ∧ yFm t u)) := by
  refine ⟨(t.s1 160 0 0).s1 160 0 1, fun Q => ?_, yMI_s1 (yMI_s1 M (by decide)) (by decide), ys1_same, (yFr_s1 (P := fun a => a = 160) rfl).trans (yFr_s1 (P := fun a => a = 160) rfl) (fun a h => by omega)⟩
  show G (d + 2) 206 0 [some (.ref 160), some (.int l), none] [] (yemb t) Q ↔ _
  simp only [s_206_0, s_206_1, s_206_2, s_206_3, s_206_4, s_206_5, s_206_6, s_206_7, s_206_8, s_206_9, s_206_10, s_206_11, s_206_12, s_206_13, s_206_14, s_206_15, s_206_16, s_206_17, s_206_18, s_206_19, s_206_20, s_206_21, s_206_22, s_206_23, s_206_24, s_206_25, s_206_26, s_206_27, s_206_28, yO_160, m_183, hc, ifbn, Bool.false_eq_true, if_false, m_124t yne10 ys1_same, yne10, Gk_v, Gk_n, xcat_nil, xcat_i, xcat_r, xcat_l, xcat_d, Nat.zero_le, Nat.reduceAdd, Nat.reduceLeDiff, true_and, and_true, ykl_i, ykl_r, ykl_n, ykl_l]
theorem k_237 (I : yInv t) (hz : t.z.1.1 < 900000) (l : Int32) : ∃ u1 u c b, Ra (d + 3) 237 [.ref 0, .int l, .ref 183] (yemb t) (.inl (some (.int c))) (yemb u1) ∧ (Ra (d + 2) 206 [.ref 160, .int l] (yemb u1) (.inl (some (.int b))) (yemb u) ∧ yOK t u c b.toInt64) := by
  obtain ⟨⟨D, k, E, s0, s1, n, B, eo, en, C, M⟩, Z⟩ := I
  cases hc : ychan l
  · obtain ⟨u, hu, M1, h0, Fm⟩ := p_206t (d := d) (yMI_c M yFc_bp) hc
    exact ⟨_, u, 1, 0, h_237_0 (q_110t hc hz), hu, yOK_of Z yFc_bp (yCI_bp C) Fm M1 h0 (fun h => absurd h yne10)⟩
  · obtain ⟨ln, hln, rfl⟩ := yrange (m := 255) (by decide) (of_decide_eq_true hc)
    obtain ⟨u1, h1, C1, F1⟩ := q_110 (d := d) C (l := ln) (by omega) hc
    have Fc := yFc_out (j := 0) (v := D.lv.toInt64) (yFc_fr F1 (fun a h => Or.inl h))
    obtain ⟨u, hu, M1, h0, Fm⟩ := p_206 (d := d) (yMI_c M Fc) (l := ln) (by omega) hc
    exact ⟨_, u, 0, D.lv, h_237 h1, hu, yOK_of Z Fc (yCI_out C1) Fm M1 h0 (fun _ => yoL)⟩
/- shift -/
def yin0 (m : Nat) (x : Int32) : Bool := decide (0 ≤ x ∧ x ≤ yI m)
theorem q_109 (C : yCI t D k E s0 s1 n B eo en) {b : Nat} (hb : b < 10000) : ∃ u, Ra (d + 2) 109 [.ref 0, .int (yI b)] (yemb t) (.inl (some (.int ((yturn D b).fm 0)))) (yemb u) ∧ (yCI u (yturn D b) (min 8 (k + 1)) (ypush D E) s0 s1 n B eo en ∧ yFr (fun a => a < 160) t u) := by
  obtain ⟨u1, h1, C1, F1⟩ := q_6 (d := d) C
  obtain ⟨u2, h2, W2, F2⟩ := m_40 (d := d + 1) hb C1.1
  have c1 : ¬ yI b < 0 := yI_nneg (by omega)
  have c2 : yI b ≤ 9999 := (yI_le (m := 9999) (by omega) (by decide)).mpr (by omega)
  refine ⟨u2, fun Q => ?_, yCI_D C1 F2 (fun a h => by omega) W2, F1.trans F2 (fun a h => by omega)⟩
  show G (d + 2) 109 0 [some (.ref 0), some (.int (yI b))] [] (yemb t) Q ↔ _
  simp only [s_109_0, s_109_1, s_109_2, s_109_3, s_109_4, s_109_5, s_109_6, s_109_6i, s_109_9, s_109_10, s_109_11, s_109_12, s_109_13, s_109_14, s_109_15, s_109_16, s_109_17, s_109_18, yO_0, yO_7, yO_38, c1, c2, if_true, if_false, h1, h2, Gk_v, Gk_n, xcat_nil, xcat_i, xcat_r, xcat_l, xcat_d, Nat.zero_le, Nat.reduceAdd, Nat.reduceLeDiff, true_and, and_true, ykl_i, ykl_r, ykl_n, ykl_l]
theorem q_109t {b : Int32} (hb : yin0 9999 b = false) (hz : t.z.1.1 < 900000) : Ra (d + 2) 109 [.ref 0, .int b] (yemb t) (.inr 0) (yemb t.bp) := by
  intro Q
  have hb' := of_decide_eq_false hb
  show G (d + 2) 109 0 [some (.ref 0), some (.int b)] [] (yemb t) Q ↔ _
  by_cases c1 : b < 0
  · simp only [s_109_0, s_109_1, s_109_2, s_109_3, s_109_4, s_109_5, s_109_6, s_109_6i, s_109_9, s_109_10, s_109_11, s_109_12, s_109_13, s_109_14, s_109_15, s_109_16, s_109_17, s_109_18, c1, if_true, xbump_z hz, xbump_emb, Gk_v, Gk_n, xcat_nil, xcat_i, xcat_r, xcat_l, xcat_d, Nat.zero_le, Nat.reduceAdd, Nat.reduceLeDiff, true_and, and_true, ykl_i, ykl_r, ykl_n, ykl_l]
  · have c2 : ¬ b ≤ 9999 := fun h => hb' ⟨Int32.not_lt.mp c1, h⟩
    simp only [s_109_0, s_109_1, s_109_2, s_109_3, s_109_4, s_109_5, s_109_6, s_109_6i, s_109_9, s_109_10, s_109_11, s_109_12, s_109_13, s_109_14, s_109_15, s_109_16, s_109_17, s_109_18, c1, c2, if_false, xbump_z hz, xbump_emb, Gk_v, Gk_n, xcat_nil, xcat_i, xcat_r, xcat_l, xcat_d, Nat.zero_le, Nat.reduceAdd, Nat.reduceLeDiff, true_and, and_true, ykl_i, ykl_r, ykl_n, ykl_l]
theorem p_205 (M : yMI t D k E s0 s1 n B eo en) {b : Nat} (hb : b < 10000) : ∃ u, Ra (d + 3) 205 [.ref 160, .int (yI b)] (yemb t) (.inl (some (.int ((yturn D b).fm 0)))) (yemb u) ∧ (yMI u (yturn D b) (min 8 (k + 1)) (ypush D E) s0 s1 n B eo en ∧ (u.A 160 0 = 0 ∧ yFm t u)) := by
  obtain ⟨u1, h1, M1, hj, F1⟩ := p_203 (d := d + 1) (yMI_s1 (j := 0) (v := 0) M (by decide))
  rw [ys1_same] at hj
  obtain ⟨u2, h2, M2, F2⟩ := m_182 (d := d) hb M1.1
  have c1 : (decide ((0 : Int32) ≤ yI b ∧ yI b ≤ 9999)) = true := decide_eq_true ⟨(yI_le (n := 0) (by decide) (by omega)).mpr (Nat.zero_le _), (yI_le (m := 9999) (by omega) (by decide)).mpr (by omega)⟩
  have g : ∀ Q', Cl (d + 2) 162 [.ref 160, .int 0, .int 7] (yemb u2) Q' ↔ Q' (.inl (some (.int ((yturn D b).fm 0)))) (yemb u2) := fun Q' => mo_fm (d := d + 1) (Q := Q') M2 (p := 0) (by decide)
  refine ⟨u2, fun Q => ?_, yMI_D M1 F2 (fun a h => by omega) M2, by rw [F2.A (by omega)]; exact hj, ((yFr_s1 (P := fun a => a = 160) rfl).trans F1 (P'' := fun a => 160 ≤ a ∧ a ≠ 183) (fun a h => by omega)).trans F2 (fun a h => by omega)⟩
  show G (d + 3) 205 0 [some (.ref 160), some (.int (yI b))] [] (yemb t) Q ↔ _
  simp only [s_205_0, s_205_1, s_205_2, s_205_3, s_205_4, s_205_5, s_205_6, s_205_7, s_205_8, s_205_9, s_205_10, s_205_11, s_205_12, s_205_13, s_205_14, s_205_15, s_205_16, s_205_17, s_205_18, s_205_19, s_205_20, s_205_21, s_205_22, s_205_23, s_205_24, s_205_25, s_205_26, yO_160, m_125, c1, ifbn, if_true, m_124f yne10 ys1_same, h1, h2, g, Gk_v, Gk_n, xcat_nil, xcat_i, xcat_r, xcat_l, xcat_d, Nat.zero_le, Nat.reduceAdd, Nat.reduceLeDiff, true_and, and_true, ykl_i, ykl_r, ykl_n, ykl_l]
theorem p_205t (M : yMI t D k E s0 s1 n B eo en) {b : Int32} (hb : yin0 9999 b = false) : ∃ u, Ra (d + 3) 205 [.ref 160, .int b] (yemb t) (.inl (some (.int 0))) (yemb u) ∧ (yMI u D k E s0 s1 n B eo en ∧ (u.A 160 0 = 1 ∧ yFm t u)) := by
  refine ⟨(t.s1 160 0 0).s1 160 0 1, fun Q => ?_, yMI_s1 (yMI_s1 M (by decide)) (by decide), ys1_same, (yFr_s1 (P := fun a => a = 160) rfl).trans (yFr_s1 (P := fun a => a = 160) rfl) (fun a h => by omega)⟩
  have c1 : (decide ((0 : Int32) ≤ b ∧ b ≤ 9999)) = false := hb
  show G (d + 3) 205 0 [some (.ref 160), some (.int b)] [] (yemb t) Q ↔ _
  simp only [s_205_0, s_205_1, s_205_2, s_205_3, s_205_4, s_205_5, s_205_6, s_205_7, s_205_8, s_205_9, s_205_10, s_205_11, s_205_12, s_205_13, s_205_14, s_205_15, s_205_16, s_205_17, s_205_18, s_205_19, s_205_20, s_205_21, s_205_22, s_205_23, s_205_24, s_205_25, s_205_26, yO_160, m_125, c1, ifbn, Bool.false_eq_true, if_false, m_124t yne10 ys1_same, yne10, Gk_v, Gk_n, xcat_nil, xcat_i, xcat_r, xcat_l, xcat_d, Nat.zero_le, Nat.reduceAdd, Nat.reduceLeDiff, true_and, and_true, ykl_i, ykl_r, ykl_n, ykl_l]
theorem k_236 (I : yInv t) (hz : t.z.1.1 < 900000) (l : Int32) : ∃ u1 u c b, Ra (d + 3) 236 [.ref 0, .int l, .ref 183] (yemb t) (.inl (some (.int c))) (yemb u1) ∧ (Ra (d + 3) 205 [.ref 160, .int l] (yemb u1) (.inl (some (.int b))) (yemb u) ∧ yOK t u c b.toInt64) := by
  obtain ⟨⟨D, k, E, s0, s1, n, B, eo, en, C, M⟩, Z⟩ := I
  cases hc : yin0 9999 l
  · obtain ⟨u, hu, M1, h0, Fm⟩ := p_205t (d := d) (yMI_c M yFc_bp) hc
    exact ⟨_, u, 1, 0, h_236_0 (q_109t hc hz), hu, yOK_of Z yFc_bp (yCI_bp C) Fm M1 h0 (fun h => absurd h yne10)⟩
  · obtain ⟨b, hb, rfl⟩ := yrange (m := 9999) (by decide) (of_decide_eq_true hc)
    obtain ⟨u1, h1, C1, F1⟩ := q_109 (d := d) C (b := b) (by omega)
    have Fc := yFc_out (j := 0) (v := ((yturn D b).fm 0).toInt64) (yFc_fr F1 (fun a h => Or.inl h))
    obtain ⟨u, hu, M1, h0, Fm⟩ := p_205 (d := d) (yMI_c M Fc) (b := b) (by omega)
    exact ⟨_, u, 0, (yturn D b).fm 0, h_236 h1, hu, yOK_of Z Fc (yCI_out C1) Fm M1 h0 (fun _ => yoL)⟩
/- show -/
theorem l_111 {T : Nat} (hT : T ≤ 50) : ∀ m i (t : yT) (D : yD), yW t 7 D → i + m = T → ∃ u, Gg (d + 6) 111 17 [some (.ref 0), some (.int (yI T)), some (.int (yI i))] [] (yemb t) 27 [some (.ref 0), some (.int (yI T)), some (.int (yI T))] [] (yemb u) ∧ (yW u 7 (yshows m D) ∧ yFr (fun a => 3 ≤ a ∧ a ≤ 17) t u) := by
  intro m
  induction m with
  | zero =>
    intro i t D W hi
    have e : i = T := by omega
    have h3 : yI T ≤ yI T := Int32.le_refl _
    refine ⟨t, fun Q => ?_, W, yFr.rfl'⟩
    rw [s_111_17]
    simp only [s_111_0, s_111_1, s_111_2, s_111_3, s_111_4, s_111_5, s_111_6, s_111_7, s_111_7i, s_111_10, s_111_11, s_111_12, s_111_13, s_111_14, s_111_15, s_111_16, s_111_18, s_111_19, s_111_20, s_111_21, s_111_22, s_111_23, s_111_24, s_111_25, s_111_26, s_111_28, s_111_29, s_111_30, e, h3, if_true, Gk_v, Gk_n, xcat_nil, xcat_i, xcat_r, xcat_l, xcat_d, Nat.zero_le, Nat.reduceAdd, Nat.reduceLeDiff, true_and, and_true, ykl_i, ykl_r, ykl_n, ykl_l]
  | succ m ih =>
    intro i t D W hi
    have h3 : ¬ yI T ≤ yI i := fun h => absurd ((yI_le (by omega) (by omega)).mp h) (by omega)
    have h4 : yI i + 1 = yI (i + 1) := yI_add
    obtain ⟨u1, h1, W1, F1⟩ := m_52 (d := d) W
    obtain ⟨u, hu, Wu, Fu⟩ := ih (i + 1) u1 _ W1 (by omega)
    refine ⟨u, fun Q => ?_, Wu, F1.trans Fu (fun a h => by omega)⟩
    rw [s_111_17]
    simp only [s_111_0, s_111_1, s_111_2, s_111_3, s_111_4, s_111_5, s_111_6, s_111_7, s_111_7i, s_111_10, s_111_11, s_111_12, s_111_13, s_111_14, s_111_15, s_111_16, s_111_18, s_111_19, s_111_20, s_111_21, s_111_22, s_111_23, s_111_24, s_111_25, s_111_26, s_111_28, s_111_29, s_111_30, yO_0, yO_7, h3, if_false, h1, h4, hu, Gk_v, Gk_n, xcat_nil, xcat_i, xcat_r, xcat_l, xcat_d, Nat.zero_le, Nat.reduceAdd, Nat.reduceLeDiff, true_and, and_true, ykl_i, ykl_r, ykl_n, ykl_l]
theorem q_111 (C : yCI t D k E s0 s1 n B eo en) {T : Nat} (h1 : 1 ≤ T) (hT : T ≤ 50) : ∃ u, Ra (d + 6) 111 [.ref 0, .int (yI T)] (yemb t) (.inl (some (.int (ywrongs (yshows T D))))) (yemb u) ∧ (yCI u (yshows T D) (min 8 (k + 1)) (ypush D E) s0 s1 n B eo en ∧ yFr (fun a => a < 160) t u) := by
  obtain ⟨u1, g1, C1, F1⟩ := q_6 (d := d + 4) C
  obtain ⟨u2, g2, W2, F2⟩ := l_111 (d := d) hT T 0 u1 D C1.1 (Nat.zero_add _)
  have c1 : ¬ yI T < 1 := fun h => absurd ((yI_lt (m := 1) (by omega) (by decide)).mp h) (by omega)
  have c2 : yI T ≤ 50 := (yI_le (m := 50) (by omega) (by decide)).mpr (by omega)
  have g3 := fun Q' => m_59 (d := d + 2) (Q := Q') W2
  refine ⟨u2, fun Q => ?_, yCI_D C1 F2 (fun a h => by omega) W2, F1.trans F2 (fun a h => by omega)⟩
  show G (d + 6) 111 0 [some (.ref 0), some (.int (yI T)), none] [] (yemb t) Q ↔ _
  have g2' := g2 Q
  simp only [s_111_0, s_111_1, s_111_2, s_111_3, s_111_4, s_111_5, s_111_10, s_111_11 yO_0, s_111_12, s_111_13 yO_0, s_111_14 yO_38, s_111_15, s_111_16, c1, c2, if_true, if_false, g1, Gk_v, Gk_n, xcat_nil, xcat_i, xcat_r, xcat_l, xcat_d, Nat.zero_le, Nat.reduceAdd, Nat.reduceLeDiff, true_and, and_true, ykl_i, ykl_r, ykl_n, ykl_l]
  rw [show (0 : Int32) = yI 0 from rfl, g2']
  simp only [s_111_27, s_111_28 yO_0, s_111_29 yO_7, s_111_30, g3, Gk_v, Gk_n, xcat_nil, xcat_i, xcat_r, xcat_l, xcat_d, Nat.zero_le, Nat.reduceAdd, Nat.reduceLeDiff, true_and, and_true, ykl_i, ykl_r, ykl_n, ykl_l]
theorem q_111t {b : Int32} (hb : decide (1 ≤ b ∧ b ≤ 50) = false) (hz : t.z.1.1 < 900000) : Ra (d + 6) 111 [.ref 0, .int b] (yemb t) (.inr 0) (yemb t.bp) := by
  intro Q
  have hb' := of_decide_eq_false hb
  show G (d + 6) 111 0 [some (.ref 0), some (.int b), none] [] (yemb t) Q ↔ _
  by_cases c1 : b < 1
  · simp only [s_111_0, s_111_1, s_111_2, s_111_3, s_111_4, s_111_5, s_111_6, s_111_7, s_111_7i, s_111_10, s_111_11, s_111_12, s_111_13, s_111_14, s_111_15, s_111_16, s_111_17, s_111_18, s_111_19, s_111_20, s_111_21, s_111_22, s_111_23, s_111_24, s_111_25, s_111_26, s_111_27, s_111_28, s_111_29, s_111_30, c1, if_true, xbump_z hz, xbump_emb, Gk_v, Gk_n, xcat_nil, xcat_i, xcat_r, xcat_l, xcat_d, Nat.zero_le, Nat.reduceAdd, Nat.reduceLeDiff, true_and, and_true, ykl_i, ykl_r, ykl_n, ykl_l]
  · have c2 : ¬ b ≤ 50 := fun h => hb' ⟨Int32.not_lt.mp c1, h⟩
    simp only [s_111_0, s_111_1, s_111_2, s_111_3, s_111_4, s_111_5, s_111_6, s_111_7, s_111_7i, s_111_10, s_111_11, s_111_12, s_111_13, s_111_14, s_111_15, s_111_16, s_111_17, s_111_18, s_111_19, s_111_20, s_111_21, s_111_22, s_111_23, s_111_24, s_111_25, s_111_26, s_111_27, s_111_28, s_111_29, s_111_30, c1, c2, if_false, xbump_z hz, xbump_emb, Gk_v, Gk_n, xcat_nil, xcat_i, xcat_r, xcat_l, xcat_d, Nat.zero_le, Nat.reduceAdd, Nat.reduceLeDiff, true_and, and_true, ykl_i, ykl_r, ykl_n, ykl_l]
theorem l_207 {T : Nat} (hT : T ≤ 50) : ∀ m i (t : yT) (D : yD), yM (t.A 162) D → i + m = T → ∃ u, Gg (d + 8) 207 21 [some (.ref 160), some (.int (yI T)), some (.int (yI i))] [] (yemb t) 28 [some (.ref 160), some (.int (yI T)), some (.int (yI T))] [] (yemb u) ∧ (yM (u.A 162) (yshows m D) ∧ yFr (fun a => a = 162 ∨ a = 180) t u) := by
  intro m
  induction m with
  | zero =>
    intro i t D W hi
    have e : i = T := by omega
    have h3 : yI T ≤ yI T := Int32.le_refl _
    refine ⟨t, fun Q => ?_, W, yFr.rfl'⟩
    rw [s_207_21]
    simp only [s_207_0, s_207_1, s_207_2, s_207_3, s_207_4, s_207_5, s_207_6, s_207_7, s_207_8, s_207_9, s_207_10, s_207_11, s_207_12, s_207_13, s_207_14, s_207_15, s_207_16, s_207_17, s_207_18, s_207_19, s_207_20, s_207_22, s_207_23, s_207_24, s_207_25, s_207_26, s_207_27, s_207_29, s_207_30, e, h3, if_true, Gk_v, Gk_n, xcat_nil, xcat_i, xcat_r, xcat_l, xcat_d, Nat.zero_le, Nat.reduceAdd, Nat.reduceLeDiff, true_and, and_true, ykl_i, ykl_r, ykl_n, ykl_l]
  | succ m ih =>
    intro i t D W hi
    have h3 : ¬ yI T ≤ yI i := fun h => absurd ((yI_le (by omega) (by omega)).mp h) (by omega)
    have h4 : yI i + 1 = yI (i + 1) := yI_add
    obtain ⟨u1, h1, W1, F1⟩ := m_180 (d := d) W
    obtain ⟨u, hu, Wu, Fu⟩ := ih (i + 1) u1 _ W1 (by omega)
    refine ⟨u, fun Q => ?_, Wu, F1.trans Fu (fun a h => by omega)⟩
    rw [s_207_21]
    simp only [s_207_0, s_207_1, s_207_2, s_207_3, s_207_4, s_207_5, s_207_6, s_207_7, s_207_8, s_207_9, s_207_10, s_207_11, s_207_12, s_207_13, s_207_14, s_207_15, s_207_16, s_207_17, s_207_18, s_207_19, s_207_20, s_207_22, s_207_23, s_207_24, s_207_25, s_207_26, s_207_27, s_207_29, s_207_30, yO_160, h3, if_false, h1, h4, hu, Gk_v, Gk_n, xcat_nil, xcat_i, xcat_r, xcat_l, xcat_d, Nat.zero_le, Nat.reduceAdd, Nat.reduceLeDiff, true_and, and_true, ykl_i, ykl_r, ykl_n, ykl_l]
theorem p_207 (M : yMI t D k E s0 s1 n B eo en) {T : Nat} (hT1 : 1 ≤ T) (hT : T ≤ 50) : ∃ u, Ra (d + 8) 207 [.ref 160, .int (yI T)] (yemb t) (.inl (some (.int (ywrongs (yshows T D))))) (yemb u) ∧ (yMI u (yshows T D) (min 8 (k + 1)) (ypush D E) s0 s1 n B eo en ∧ (u.A 160 0 = 0 ∧ yFm t u)) := by
  obtain ⟨u1, h1, M1, hj, F1⟩ := p_203 (d := d + 6) (yMI_s1 (j := 0) (v := 0) M (by decide))
  rw [ys1_same] at hj
  obtain ⟨u2, h2, M2, F2⟩ := l_207 (d := d) hT T 0 u1 D M1.1 (Nat.zero_add _)
  have c1 : (decide ((1 : Int32) ≤ yI T ∧ yI T ≤ 50)) = true := decide_eq_true ⟨(yI_le (n := 1) (by decide) (by omega)).mpr hT1, (yI_le (m := 50) (by omega) (by decide)).mpr (by omega)⟩
  have g := fun Q' => m_173 (d := d + 4) (Q := Q') M2
  refine ⟨u2, fun Q => ?_, yMI_D M1 F2 (fun a h => by omega) M2, by rw [F2.A (by omega)]; exact hj, ((yFr_s1 (P := fun a => a = 160) rfl).trans F1 (P'' := fun a => 160 ≤ a ∧ a ≠ 183) (fun a h => by omega)).trans F2 (fun a h => by omega)⟩
  show G (d + 8) 207 0 [some (.ref 160), some (.int (yI T)), none] [] (yemb t) Q ↔ _
  have h2' := h2 Q
  simp only [s_207_0, s_207_1, s_207_2, s_207_3, s_207_4, s_207_5, s_207_6, s_207_7, s_207_8, s_207_9, s_207_10, s_207_11, s_207_12, s_207_13, s_207_14, s_207_15, s_207_16, s_207_17, s_207_18, s_207_19, s_207_20, yO_160, m_125, c1, ifbn, if_true, m_124f yne10 ys1_same, h1, Gk_v, Gk_n, xcat_nil, xcat_i, xcat_r, xcat_l, xcat_d, Nat.zero_le, Nat.reduceAdd, Nat.reduceLeDiff, true_and, and_true, ykl_i, ykl_r, ykl_n, ykl_l]
  rw [show (0 : Int32) = yI 0 from rfl, h2']
  simp only [s_207_28, s_207_29 yO_160, s_207_30, g, Gk_v, Gk_n, xcat_nil, xcat_i, xcat_r, xcat_l, xcat_d, Nat.zero_le, Nat.reduceAdd, Nat.reduceLeDiff, true_and, and_true, ykl_i, ykl_r, ykl_n, ykl_l]
theorem p_207t (M : yMI t D k E s0 s1 n B eo en) {b : Int32} (hb : decide (1 ≤ b ∧ b ≤ 50) = false) : ∃ u, Ra (d + 8) 207 [.ref 160, .int b] (yemb t) (.inl (some (.int 0))) (yemb u) ∧ (yMI u D k E s0 s1 n B eo en ∧ (u.A 160 0 = 1 ∧ yFm t u)) := by
  refine ⟨(t.s1 160 0 0).s1 160 0 1, fun Q => ?_, yMI_s1 (yMI_s1 M (by decide)) (by decide), ys1_same, (yFr_s1 (P := fun a => a = 160) rfl).trans (yFr_s1 (P := fun a => a = 160) rfl) (fun a h => by omega)⟩
  show G (d + 8) 207 0 [some (.ref 160), some (.int b), none] [] (yemb t) Q ↔ _
  simp only [s_207_0, s_207_1, s_207_2, s_207_3, s_207_4, s_207_5, s_207_6, s_207_7, s_207_8, s_207_9, s_207_10, s_207_11, s_207_12, s_207_13, s_207_14, s_207_15, s_207_16, s_207_17, s_207_18, s_207_19, s_207_20, s_207_21, s_207_22, s_207_23, s_207_24, s_207_25, s_207_26, s_207_27, s_207_28, s_207_29, s_207_30, yO_160, m_125, hb, ifbn, Bool.false_eq_true, if_false, m_124t yne10 ys1_same, yne10, Gk_v, Gk_n, xcat_nil, xcat_i, xcat_r, xcat_l, xcat_d, Nat.zero_le, Nat.reduceAdd, Nat.reduceLeDiff, true_and, and_true, ykl_i, ykl_r, ykl_n, ykl_l]
theorem k_238 (I : yInv t) (hz : t.z.1.1 < 900000) (l : Int32) : ∃ u1 u c b, Ra (d + 7) 238 [.ref 0, .int l, .ref 183] (yemb t) (.inl (some (.int c))) (yemb u1) ∧ (Ra (d + 8) 207 [.ref 160, .int l] (yemb u1) (.inl (some (.int b))) (yemb u) ∧ yOK t u c b.toInt64) := by
  obtain ⟨⟨D, k, E, s0, s1, n, B, eo, en, C, M⟩, Z⟩ := I
  cases hc : decide (1 ≤ l ∧ l ≤ 50)
  · obtain ⟨u, hu, M1, h0, Fm⟩ := p_207t (d := d) (yMI_c M yFc_bp) hc
    exact ⟨_, u, 1, 0, h_238_0 (q_111t hc hz), hu, yOK_of Z yFc_bp (yCI_bp C) Fm M1 h0 (fun h => absurd h yne10)⟩
  · have hc' := of_decide_eq_true hc
    obtain ⟨b, hb, rfl⟩ := yrange (x := l) (m := 50) (by decide) ⟨Int32.le_trans (by decide) hc'.1, hc'.2⟩
    have hb1 : 1 ≤ b := (yI_le (n := 1) (by decide) (by omega)).mp hc'.1
    obtain ⟨u1, h1, C1, F1⟩ := q_111 (d := d) C hb1 hb
    have Fc := yFc_out (j := 0) (v := (ywrongs (yshows b D)).toInt64) (yFc_fr F1 (fun a h => Or.inl h))
    obtain ⟨u, hu, M1, h0, Fm⟩ := p_207 (d := d) (yMI_c M Fc) hb1 hb
    exact ⟨_, u, 0, _, h_238 h1, hu, yOK_of Z Fc (yCI_out C1) Fm M1 h0 (fun _ => yoL)⟩
/- bypass -/
theorem yisp_of {p : Int32} (h1 : D.n ≤ 40) (h : yisp D p = true) : ∃ q, q < D.n ∧ p = yI q := by
  have h' := of_decide_eq_true h
  obtain ⟨q, hq, rfl⟩ := yI_of (Int32.not_lt.mpr h'.1)
  exact ⟨q, (yI_lt hq (by omega)).mp h'.2, rfl⟩
theorem q_112 (C : yCI t D k E s0 s1 n B eo en) {p : Nat} (hp : p < D.n) (hc : yisp D (yI p) = true) {b : Bool} : ∃ u, Ra (d + 2) 112 [.ref 0, .int (yI p), .int (yb b)] (yemb t) (.inl (some (.int (yb (D.bp p))))) (yemb u) ∧ (yCI u (D.sbw (ybs D.bw p b)) (min 8 (k + 1)) (ypush D E) s0 s1 n B eo en ∧ yFr (fun a => a < 160) t u) := by
  have hn40 := C.1.ok.n40
  obtain ⟨u1, h1, C1, F1⟩ := q_6 (d := d) C
  obtain ⟨h2, W2⟩ := m_35 (d := d + 1) C1.1 hp (b := b)
  have g1 := fun Q' => m_32' (d := d + 1) C.1 (j := yI p) Q'
  have g2 := fun Q' => m_34 (d := d) (Q := Q') (t := u1) (j := yI p) yO_7
  have g3 := C1.1.bp p (by omega)
  refine ⟨_, fun Q => ?_, yCI_D C1 (yFr_sL (P := fun a => a = 7) rfl) (fun a h => by omega) W2, F1.trans (yFr_sL (P := fun a => a = 7) rfl) (fun a h => by omega)⟩
  show G (d + 2) 112 0 [some (.ref 0), some (.int (yI p)), some (.int (yb b)), none] [] (yemb t) Q ↔ _
  simp only [s_112_0, s_112_1, s_112_2, s_112_3, s_112_4, s_112_5, s_112_6, s_112_6i, s_112_9, s_112_10, s_112_11, s_112_12, s_112_13, s_112_14, s_112_15, s_112_16, s_112_17, s_112_18, s_112_19, s_112_20, s_112_21, s_112_22, s_112_23, s_112_24, s_112_25, yO_0, yO_7, yO_38, g1, hc, ifbn, if_true, h1, g2, g3, h2, ybo_b, Gk_v, Gk_n, xcat_nil, xcat_i, xcat_r, xcat_l, xcat_d, Nat.zero_le, Nat.reduceAdd, Nat.reduceLeDiff, true_and, and_true, ykl_i, ykl_r, ykl_n, ykl_l]
theorem q_112t (C : yCI t D k E s0 s1 n B eo en) {p b : Int32} (hc : yisp D p = false) (hz : t.z.1.1 < 900000) : Ra (d + 2) 112 [.ref 0, .int p, .int b] (yemb t) (.inr 1) (yemb t.bp) := by
  intro Q
  have g1 := fun Q' => m_32' (d := d + 1) C.1 (j := p) Q'
  show G (d + 2) 112 0 [some (.ref 0), some (.int p), some (.int b), none] [] (yemb t) Q ↔ _
  simp only [s_112_0, s_112_1, s_112_2, s_112_3, s_112_4, s_112_5, s_112_6, s_112_6i, s_112_9, s_112_10, s_112_11, s_112_12, s_112_13, s_112_14, s_112_15, s_112_16, s_112_17, s_112_18, s_112_19, s_112_20, s_112_21, s_112_22, s_112_23, s_112_24, s_112_25, yO_0, yO_7, g1, hc, ifbn, Bool.false_eq_true, if_false, xbump_z hz, xbump_emb, Gk_v, Gk_n, xcat_nil, xcat_i, xcat_r, xcat_l, xcat_d, Nat.zero_le, Nat.reduceAdd, Nat.reduceLeDiff, true_and, and_true, ykl_i, ykl_r, ykl_n, ykl_l]
theorem p_208 (M : yMI t D k E s0 s1 n B eo en) {p : Nat} (hp : p < D.n) (hc : yisp D (yI p) = true) {b : Bool} : ∃ u, Ra (d + 2) 208 [.ref 160, .int (yI p), .int (yb b)] (yemb t) (.inl (some (.int (yb (D.bp p))))) (yemb u) ∧ (yMI u (D.sbw (ybs D.bw p b)) (min 8 (k + 1)) (ypush D E) s0 s1 n B eo en ∧ (u.A 160 0 = 0 ∧ yFm t u)) := by
  have hn40 := M.1.ok.n40
  have M0 := yMI_s1 (j := 0) (v := 0) M (by decide)
  obtain ⟨u1, h1, M1, hj, F1⟩ := p_203 (d := d) M0
  rw [ys1_same] at hj
  have M2 : yM ((u1.s1 162 (8 + 8 * p + 1) (yb b)).A 162) (D.sbw (ybs D.bw p b)) := ⟨yDok_sbw M.1.ok (ybs_lt M.1.ok.bwn hp), by rw [ys1_upd]; exact yN_sbp (v := 0) M1.1.v (by omega) (fun q hq => ybs_bit (by omega))⟩
  have g0 := fun Q' => m_185' (d := d) M0.1 (p := yI p) ys1_same Q'
  rw [hc] at g0
  have g1 := fun Q' => mo_bp (d := d) (Q := Q') M1.1 (p := p) (by omega)
  have g2 : ∀ Q', Cl (d + 1) 163 [.ref 160, .int (yI p), .int 1, .int (yb b)] (yemb u1) Q' ↔ Q' (.inl none) (yemb (u1.s1 162 (8 + 8 * p + 1) (yb b))) := fun Q' => m_163 (w := 1) (by omega) (by omega)
  refine ⟨_, fun Q => ?_, yMI_D M1 (yFr_s1 (P := fun a => a = 162) rfl) (fun a h => by omega) M2, by rw [ys1_ne (by decide)]; exact hj, ((yFr_s1 (P := fun a => a = 160) rfl).trans F1 (P'' := fun a => 160 ≤ a ∧ a ≠ 183) (fun a h => by omega)).trans (yFr_s1 (P := fun a => a = 162) rfl) (fun a h => by omega)⟩
  show G (d + 2) 208 0 [some (.ref 160), some (.int (yI p)), some (.int (yb b)), none] [] (yemb t) Q ↔ _
  cases hb : D.bp p <;> cases b
  all_goals
    rw [hb] at g1
    simp only [s_208_0, s_208_1, s_208_2, s_208_3, s_208_4, s_208_5, s_208_6, s_208_7, s_208_8, s_208_9, s_208_10, s_208_11, s_208_12, s_208_13, s_208_14, s_208_15, s_208_16, s_208_17, s_208_18, s_208_19, s_208_20, s_208_21, s_208_22, s_208_23, s_208_24, s_208_25, s_208_26, s_208_27, s_208_28, s_208_29, s_208_30, s_208_31, yO_160, g0, Bool.not_true, ifb, ifbn, Bool.false_eq_true, if_false, if_true, h1, g1, yb_1, Gk_v, Gk_n, xcat_nil, xcat_i, xcat_r, xcat_l, xcat_d, Nat.zero_le, Nat.reduceAdd, Nat.reduceLeDiff, true_and, and_true, ykl_i, ykl_r, ykl_n, ykl_l]
    first
      | (have g2' := g2 ; simp only [yb, Bool.false_eq_true, if_false, if_true] at g2' ; simp only [s_208_0, s_208_1, s_208_2, s_208_3, s_208_4, s_208_5, s_208_6, s_208_7, s_208_8, s_208_9, s_208_10, s_208_11, s_208_12, s_208_13, s_208_14, s_208_15, s_208_16, s_208_17, s_208_18, s_208_19, s_208_20, s_208_21, s_208_22, s_208_23, s_208_24, s_208_25, s_208_26, s_208_27, s_208_28, s_208_29, s_208_30, s_208_31, yO_160, g2', ybo_0, ybo_1, yb, Bool.false_eq_true, if_false, if_true, Gk_v, Gk_n, xcat_nil, xcat_i, xcat_r, xcat_l, xcat_d, Nat.zero_le, Nat.reduceAdd, Nat.reduceLeDiff, true_and, and_true, ykl_i, ykl_r, ykl_n, ykl_l])
theorem p_208t (M : yMI t D k E s0 s1 n B eo en) {p b : Int32} (hc : yisp D p = false) : ∃ u, Ra (d + 2) 208 [.ref 160, .int p, .int b] (yemb t) (.inl (some (.int (yb false)))) (yemb u) ∧ (yMI u D k E s0 s1 n B eo en ∧ (u.A 160 0 = 1 ∧ yFm t u)) := by
  have M0 := yMI_s1 (j := 0) (v := 0) M (by decide)
  have g0 := fun Q' => m_185' (d := d) M0.1 (p := p) ys1_same Q'
  rw [hc] at g0
  refine ⟨(t.s1 160 0 0).s1 160 0 1, fun Q => ?_, yMI_s1 M0 (by decide), ys1_same, (yFr_s1 (P := fun a => a = 160) rfl).trans (yFr_s1 (P := fun a => a = 160) rfl) (fun a h => by omega)⟩
  show G (d + 2) 208 0 [some (.ref 160), some (.int p), some (.int b), none] [] (yemb t) Q ↔ _
  simp only [s_208_0, s_208_1, s_208_2, s_208_3, s_208_4, s_208_5, s_208_6, s_208_7, s_208_8, s_208_9, s_208_10, s_208_11, s_208_12, s_208_13, s_208_14, s_208_15, s_208_16, s_208_17, s_208_18, s_208_19, s_208_20, s_208_21, s_208_22, s_208_23, s_208_24, s_208_25, s_208_26, s_208_27, s_208_28, s_208_29, s_208_30, s_208_31, yO_160, g0, Bool.not_false, ifb, if_true, ybo_0, Gk_v, Gk_n, xcat_nil, xcat_i, xcat_r, xcat_l, xcat_d, Nat.zero_le, Nat.reduceAdd, Nat.reduceLeDiff, true_and, and_true, ykl_i, ykl_r, ykl_n, ykl_l]
  rfl
theorem k_239 (I : yInv t) (hz : t.z.1.1 < 900000) (p : Int32) (o : Bool) : ∃ u1 u c b, Ra (d + 3) 239 [.ref 0, .int p, .int (yb o), .ref 183] (yemb t) (.inl (some (.int c))) (yemb u1) ∧ (Ra (d + 2) 208 [.ref 160, .int p, .int (yb o)] (yemb u1) (.inl (some (.int (yb b)))) (yemb u) ∧ yOK t u c (if b = true then 1 else 0)) := by
  obtain ⟨⟨D, k, E, s0, s1, n, B, eo, en, C, M⟩, Z⟩ := I
  cases hc : yisp D p
  · obtain ⟨u, hu, M1, h0, Fm⟩ := p_208t (d := d) (b := yb o) (yMI_c M yFc_bp) hc
    exact ⟨_, u, 1, false, h_239_1 (q_112t C hc hz), hu, yOK_of Z yFc_bp (yCI_bp C) Fm M1 h0 (fun h => absurd h yne10)⟩
  · obtain ⟨q, hq, rfl⟩ := yisp_of C.1.ok.n40 hc
    obtain ⟨u1, h1, C1, F1⟩ := q_112 (d := d) C hq hc (b := o)
    have Fc := yFc_out (j := 0) (v := if D.bp q = true then 1 else 0) (yFc_fr F1 (fun a h => Or.inl h))
    obtain ⟨u, hu, M1, h0, Fm⟩ := p_208 (d := d) (yMI_c M Fc) hq hc (b := o)
    exact ⟨_, u, 0, D.bp q, h_239 h1, hu, yOK_of Z Fc (yCI_out C1) Fm M1 h0 (fun _ => yoL)⟩
end

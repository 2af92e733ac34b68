/-! ===== calls that change: level, shift, show, bypass ===== -/
theorem xbump_z {t : yT} (hz : t.z.1.1 < 900000) : (yemb t).2.1.1 < 900000 := hz
theorem yne10 : ¬ (1 : Int32) = 0 := by decide
theorem yne20 : ¬ (2 : Int32) = 0 := by decide
theorem yne30 : ¬ (3 : Int32) = 0 := by decide
theorem yoL {u : yT} {v : Int64} : (u.sL 183 0 v).L 183 0 = v := by
  rw [ysL_same]
  exact vp_updL_same
theorem yrange {x : Int32} {m : Nat} (hm : m < 2147483648) (h : 0 ≤ x ∧ x ≤ yI m) : ∃ n, n ≤ m ∧ x = yI n := by
  obtain ⟨n, hn, rfl⟩ := yI_of (Int32.not_lt.mpr h.1)
  exact ⟨n, (yI_le hn hm).mp h.2, rfl⟩
theorem yDok_slv {D : yD} {l : Nat} (h : yDok D) (hl : l < 256) : yDok (D.slv (yI l)) :=
  ⟨h.n1, h.n40, h.f1, h.f6, h.fp0, h.fpm, h.fpn, h.ogm, h.fll, h.unu, ⟨l, hl, rfl⟩, h.2.2.2.2.2.2.2.2.2.2.2⟩
def yshows : Nat → yD → yD
  | 0, D => D
  | m + 1, D => yshows m (yshowD D)
section
variable {d : Nat} {t : yT} {D : yD} {k : Nat} {E : Nat → yD} {s0 s1 : Option yD} {n : Nat} {B : Nat → Nat} {eo en : Int32}
/- level -/
theorem q_110 (C : yCI t D k E s0 s1 n B eo en) {l : Nat} (hl : l < 256) (hc : ychan (yI l) = true) : ∃ u, Ra (d + 2) 110 [.ref 0, .int (yI l)] (yemb t) (.inl (some (.int D.lv))) (yemb u) ∧ (yCI u (D.slv (yI l)) (min 8 (k + 1)) (ypush D E) s0 s1 n B eo en ∧ yFr (fun a => a < 160) t u) := by
  obtain ⟨u1, h1, C1, F1⟩ := q_6 (d := d) C
  have W2 : yW (u1.s1 7 11 (yI l)) 7 (D.slv (yI l)) := ⟨yDok_slv C.1.ok hl, yV_slv C1.1.v⟩
  refine ⟨u1.s1 7 11 (yI l), fun Q => ?_, yCI_D C1 (yFr_s1 (P := fun a => a = 7) rfl) (fun a h => by omega) W2, F1.trans (yFr_s1 (P := fun a => a = 7) rfl) (fun a h => by omega)⟩
  show G (d + 2) 110 0 [some (.ref 0), some (.int (yI l)), none] [] (yemb t) Q ↔ _
  simp only [s_110_0, s_110_1, s_110_2, s_110_3, s_110_4, s_110_4i, s_110_7, s_110_8, s_110_9, s_110_10, s_110_11, s_110_12, s_110_13, s_110_14, s_110_15, s_110_16, s_110_17, s_110_18, s_110_19, s_110_20, s_110_21, yO_0, yO_7, yO_38, m_119, hc, ifbn, if_true, h1, C1.1.lv, Gk_v, Gk_n, xcat_nil, xcat_i, xcat_r, xcat_l, xcat_d, Nat.zero_le, Nat.reduceAdd, Nat.reduceLeDiff, true_and, and_true, ykl_i, ykl_r, ykl_n, ykl_l]
theorem q_110t {l : Int32} (hc : ychan l = false) (hz : t.z.1.1 < 900000) : Ra (d + 2) 110 [.ref 0, .int l] (yemb t) (.inr 0) (yemb t.bp) := by
  intro Q
  show G (d + 2) 110 0 [some (.ref 0), some (.int l), none] [] (yemb t) Q ↔ _
  simp only [s_110_0, s_110_1, s_110_2, s_110_3, s_110_4, s_110_4i, s_110_7, s_110_8, s_110_9, s_110_10, s_110_11, s_110_12, s_110_13, s_110_14, s_110_15, s_110_16, s_110_17, s_110_18, s_110_19, s_110_20, s_110_21, m_119, hc, ifbn, Bool.false_eq_true, if_false, xbump_z hz, xbump_emb, Gk_v, Gk_n, xcat_nil, xcat_i, xcat_r, xcat_l, xcat_d, Nat.zero_le, Nat.reduceAdd, Nat.reduceLeDiff, true_and, and_true, ykl_i, ykl_r, ykl_n, ykl_l]
/- shift -/
def yin0 (m : Nat) (x : Int32) : Bool := decide (0 ≤ x ∧ x ≤ yI m)
theorem q_109 (C : yCI t D k E s0 s1 n B eo en) {b : Nat} (hb : b < 10000) : ∃ u, Ra (d + 2) 109 [.ref 0, .int (yI b)] (yemb t) (.inl (some (.int ((yturn D b).fm 0)))) (yemb u) ∧ (yCI u (yturn D b) (min 8 (k + 1)) (ypush D E) s0 s1 n B eo en ∧ yFr (fun a => a < 160) t u) := by
  obtain ⟨u1, h1, C1, F1⟩ := q_6 (d := d) C
  obtain ⟨u2, h2, W2, F2⟩ := m_40 (d := d + 1) hb C1.1
  have c1 : ¬ yI b < 0 := yI_nneg (by omega)
  have c2 : yI b ≤ 9999 := (yI_le (m := 9999) (by omega) (by decide)).mpr (by omega)
  refine ⟨u2, fun Q => ?_, yCI_D C1 F2 (fun a h => by omega) W2, F1.trans F2 (fun a h => by omega)⟩
  show G (d + 2) 109 0 [some (.ref 0), some (.int (yI b))] [] (yemb t) Q ↔ _
  simp only [s_109_0, s_109_1, s_109_2, s_109_3, s_109_4, s_109_5, s_109_6, s_109_6i, s_109_9, s_109_10, s_109_11, s_109_12, s_109_13, s_109_14, s_109_15, s_109_16, s_109_17, s_109_18, yO_0, yO_7, yO_38, c1, c2, if_true, if_false, h1, h2, Gk_v, Gk_n, xcat_nil, xcat_i, xcat_r, xcat_l, xcat_d, Nat.zero_le, Nat.reduceAdd, Nat.reduceLeDiff, true_and, and_true, ykl_i, ykl_r, ykl_n, ykl_l]
theorem q_109t {b : Int32} (hb : yin0 9999 b = false) (hz : t.z.1.1 < 900000) : Ra (d + 2) 109 [.ref 0, .int b] (yemb t) (.inr 0) (yemb t.bp) := by
  intro Q
  have hb' := of_decide_eq_false hb
  show G (d + 2) 109 0 [some (.ref 0), some (.int b)] [] (yemb t) Q ↔ _
  by_cases c1 : b < 0
  · simp only [s_109_0, s_109_1, s_109_2, s_109_3, s_109_4, s_109_5, s_109_6, s_109_6i, s_109_9, s_109_10, s_109_11, s_109_12, s_109_13, s_109_14, s_109_15, s_109_16, s_109_17, s_109_18, c1, if_true, xbump_z hz, xbump_emb, Gk_v, Gk_n, xcat_nil, xcat_i, xcat_r, xcat_l, xcat_d, Nat.zero_le, Nat.reduceAdd, Nat.reduceLeDiff, true_and, and_true, ykl_i, ykl_r, ykl_n, ykl_l]
  · have c2 : ¬ b ≤ 9999 := fun h => hb' ⟨Int32.not_lt.mp c1, h⟩
    simp only [s_109_0, s_109_1, s_109_2, s_109_3, s_109_4, s_109_5, s_109_6, s_109_6i, s_109_9, s_109_10, s_109_11, s_109_12, s_109_13, s_109_14, s_109_15, s_109_16, s_109_17, s_109_18, c1, c2, if_false, xbump_z hz, xbump_emb, Gk_v, Gk_n, xcat_nil, xcat_i, xcat_r, xcat_l, xcat_d, Nat.zero_le, Nat.reduceAdd, Nat.reduceLeDiff, true_and, and_true, ykl_i, ykl_r, ykl_n, ykl_l]
/- show -/
theorem l_111 {T : Nat} (hT : T ≤ 50) : ∀ m i (t : yT) (D : yD), yW t 7 D → i + m = T → ∃ u, Gg (d + 6) 111 17 [some (.ref 0), some (.int (yI T)), some (.int (yI i))] [] (yemb t) 27 [some (.ref 0), some (.int (yI T)), some (.int (yI T))] [] (yemb u) ∧ (yW u 7 (yshows m D) ∧ yFr (fun a => 3 ≤ a ∧ a ≤ 17) t u) := by
  intro m
  induction m with
  | zero =>
    intro i t D W hi
    have e : i = T := by omega
    have h3 : yI T ≤ yI T := Int32.le_refl _
    refine ⟨t, fun Q => ?_, W, yFr.rfl'⟩
    rw [s_111_17]
    simp only [s_111_0, s_111_1, s_111_2, s_111_3, s_111_4, s_111_5, s_111_6, s_111_7, s_111_7i, s_111_10, s_111_11, s_111_12, s_111_13, s_111_14, s_111_15, s_111_16, s_111_18, s_111_19, s_111_20, s_111_21, s_111_22, s_111_23, s_111_24, s_111_25, s_111_26, s_111_28, s_111_29, s_111_30, e, h3, if_true, Gk_v, Gk_n, xcat_nil, xcat_i, xcat_r, xcat_l, xcat_d, Nat.zero_le, Nat.reduceAdd, Nat.reduceLeDiff, true_and, and_true, ykl_i, ykl_r, ykl_n, ykl_l]
  | succ m ih =>
    intro i t D W hi
    have h3 : ¬ yI T ≤ yI i := fun h => absurd ((yI_le (by omega) (by omega)).mp h) (by omega)
    have h4 : yI i + 1 = yI (i + 1) := yI_add
    obtain ⟨u1, h1, W1, F1⟩ := m_52 (d := d) W
    obtain ⟨u, hu, Wu, Fu⟩ := ih (i + 1) u1 _ W1 (by omega)
    refine ⟨u, fun Q => ?_, Wu, F1.trans Fu (fun a h => by omega)⟩
    rw [s_111_17]
    simp only [s_111_0, s_111_1, s_111_2, s_111_3, s_111_4, s_111_5, s_111_6, s_111_7, s_111_7i, s_111_10, s_111_11, s_111_12, s_111_13, s_111_14, s_111_15, s_111_16, s_111_18, s_111_19, s_111_20, s_111_21, s_111_22, s_111_23, s_111_24, s_111_25, s_111_26, s_111_28, s_111_29, s_111_30, yO_0, yO_7, h3, if_false, h1, h4, hu, Gk_v, Gk_n, xcat_nil, xcat_i, xcat_r, xcat_l, xcat_d, Nat.zero_le, Nat.reduceAdd, Nat.reduceLeDiff, true_and, and_true, ykl_i, ykl_r, ykl_n, ykl_l]
theorem q_111 (C : yCI t D k E s0 s1 n B eo en) {T : Nat} (h1 : 1 ≤ T) (hT : T ≤ 50) : ∃ u, Ra (d + 6) 111 [.ref 0, .int (yI T)] (yemb t) (.inl (some (.int (ywrongs (yshows T D))))) (yemb u) ∧ (yCI u (yshows T D) (min 8 (k + 1)) (ypush D E) s0 s1 n B eo en ∧ yFr (fun a => a < 160) t u) := by
  obtain ⟨u1, g1, C1, F1⟩ := q_6 (d := d + 4) C
  obtain ⟨u2, g2, W2, F2⟩ := l_111 (d := d) hT T 0 u1 D C1.1 (Nat.zero_add _)
  have c1 : ¬ yI T < 1 := fun h => absurd ((yI_lt (m := 1) (by omega) (by decide)).mp h) (by omega)
  have c2 : yI T ≤ 50 := (yI_le (m := 50) (by omega) (by decide)).mpr (by omega)
  have g3 := fun Q' => m_59 (d := d + 2) (Q := Q') W2
  refine ⟨u2, fun Q => ?_, yCI_D C1 F2 (fun a h => by omega) W2, F1.trans F2 (fun a h => by omega)⟩
  show G (d + 6) 111 0 [some (.ref 0), some (.int (yI T)), none] [] (yemb t) Q ↔ _
  have g2' := g2 Q
  simp only [s_111_0, s_111_1, s_111_2, s_111_3, s_111_4, s_111_5, s_111_10, s_111_11 yO_0, s_111_12, s_111_13 yO_0, s_111_14 yO_38, s_111_15, s_111_16, c1, c2, if_true, if_false, g1, Gk_v, Gk_n, xcat_nil, xcat_i, xcat_r, xcat_l, xcat_d, Nat.zero_le, Nat.reduceAdd, Nat.reduceLeDiff, true_and, and_true, ykl_i, ykl_r, ykl_n, ykl_l]
  rw [show (0 : Int32) = yI 0 from rfl, g2']
  simp only [s_111_27, s_111_28 yO_0, s_111_29 yO_7, s_111_30, g3, Gk_v, Gk_n, xcat_nil, xcat_i, xcat_r, xcat_l, xcat_d, Nat.zero_le, Nat.reduceAdd, Nat.reduceLeDiff, true_and, and_true, ykl_i, ykl_r, ykl_n, ykl_l]
theorem q_111t {b : Int32} (hb : decide (1 ≤ b ∧ b ≤ 50) = false) (hz : t.z.1.1 < 900000) : Ra (d + 6) 111 [.ref 0, .int b] (yemb t) (.inr 0) (yemb t.bp) := by
  intro Q
  have hb' := of_decide_eq_false hb
  show G (d + 6) 111 0 [some (.ref 0), some (.int b), none] [] (yemb t) Q ↔ _
  by_cases c1 : b < 1
  · simp only [s_111_0, s_111_1, s_111_2, s_111_3, s_111_4, s_111_5, s_111_6, s_111_7, s_111_7i, s_111_10, s_111_11, s_111_12, s_111_13, s_111_14, s_111_15, s_111_16, s_111_17, s_111_18, s_111_19, s_111_20, s_111_21, s_111_22, s_111_23, s_111_24, s_111_25, s_111_26, s_111_27, s_111_28, s_111_29, s_111_30, c1, if_true, xbump_z hz, xbump_emb, Gk_v, Gk_n, xcat_nil, xcat_i, xcat_r, xcat_l, xcat_d, Nat.zero_le, Nat.reduceAdd, Nat.reduceLeDiff, true_and, and_true, ykl_i, ykl_r, ykl_n, ykl_l]
  · have c2 : ¬ b ≤ 50 := fun h => hb' ⟨Int32.not_lt.mp c1, h⟩
    simp only [s_111_0, s_111_1, s_111_2, s_111_3, s_111_4, s_111_5, s_111_6, s_111_7, s_111_7i, s_111_10, s_111_11, s_111_12, s_111_13, s_111_14, s_111_15, s_111_16, s_111_17, s_111_18, s_111_19, s_111_20, s_111_21, s_111_22, s_111_23, s_111_24, s_111_25, s_111_26, s_111_27, s_111_28, s_111_29, s_111_30, c1, c2, if_false, xbump_z hz, xbump_emb, Gk_v, Gk_n, xcat_nil, xcat_i, xcat_r, xcat_l, xcat_d, Nat.zero_le, Nat.reduceAdd, Nat.reduceLeDiff, true_and, and_true, ykl_i, ykl_r, ykl_n, ykl_l]
/- bypass -/
theorem yisp_of {p : Int32} (h1 : D.n ≤ 40) (h : yisp D p = true) : ∃ q, q < D.n ∧ p = yI q := by
  have h' := of_decide_eq_true h
  obtain ⟨q, hq, rfl⟩ := yI_of (Int32.not_lt.mpr h'.1)
  exact ⟨q, (yI_lt hq (by omega)).mp h'.2, rfl⟩
theorem q_112 (C : yCI t D k E s0 s1 n B eo en) {p : Nat} (hp : p < D.n) (hc : yisp D (yI p) = true) {b : Bool} : ∃ u, Ra (d + 2) 112 [.ref 0, .int (yI p), .int (yb b)] (yemb t) (.inl (some (.int (yb (D.bp p))))) (yemb u) ∧ (yCI u (D.sbw (ybs D.bw p b)) (min 8 (k + 1)) (ypush D E) s0 s1 n B eo en ∧ yFr (fun a => a < 160) t u) := by
  have hn40 := C.1.ok.n40
  obtain ⟨u1, h1, C1, F1⟩ := q_6 (d := d) C
  obtain ⟨h2, W2⟩ := m_35 (d := d + 1) C1.1 hp (b := b)
  have g1 := fun Q' => m_32' (d := d + 1) C.1 (j := yI p) Q'
  have g2 := fun Q' => m_34 (d := d) (Q := Q') (t := u1) (j := yI p) yO_7
  have g3 := C1.1.bp p (by omega)
  refine ⟨_, fun Q => ?_, yCI_D C1 (yFr_sL (P := fun a => a = 7) rfl) (fun a h => by omega) W2, F1.trans (yFr_sL (P := fun a => a = 7) rfl) (fun a h => by omega)⟩
  show G (d + 2) 112 0 [some (.ref 0), some (.int (yI p)), some (.int (yb b)), none] [] (yemb t) Q ↔ _
  simp only [s_112_0, s_112_1, s_112_2, s_112_3, s_112_4, s_112_5, s_112_6, s_112_6i, s_112_9, s_112_10, s_112_11, s_112_12, s_112_13, s_112_14, s_112_15, s_112_16, s_112_17, s_112_18, s_112_19, s_112_20, s_112_21, s_112_22, s_112_23, s_112_24, s_112_25, yO_0, yO_7, yO_38, g1, hc, ifbn, if_true, h1, g2, g3, h2, ybo_b, Gk_v, Gk_n, xcat_nil, xcat_i, xcat_r, xcat_l, xcat_d, Nat.zero_le, Nat.reduceAdd, Nat.reduceLeDiff, true_and, and_true, ykl_i, ykl_r, ykl_n, ykl_l]
theorem q_112t (C : yCI t D k E s0 s1 n B eo en) {p b : Int32} (hc : yisp D p = false) (hz : t.z.1.1 < 900000) : Ra (d + 2) 112 [.ref 0, .int p, .int b] (yemb t) (.inr 1) (yemb t.bp) := by
  intro Q
  have g1 := fun Q' => m_32' (d := d + 1) C.1 (j := p) Q'
  show G (d + 2) 112 0 [some (.ref 0), some (.int p), some (.int b), none] [] (yemb t) Q ↔ _
  simp only [s_112_0, s_112_1, s_112_2, s_112_3, s_112_4, s_112_5, s_112_6, s_112_6i, s_112_9, s_112_10, s_112_11, s_112_12, s_112_13, s_112_14, s_112_15, s_112_16, s_112_17, s_112_18, s_112_19, s_112_20, s_112_21, s_112_22, s_112_23, s_112_24, s_112_25, yO_0, yO_7, g1, hc, ifbn, Bool.false_eq_true, if_false, xbump_z hz, xbump_emb, Gk_v, Gk_n, xcat_nil, xcat_i, xcat_r, xcat_l, xcat_d, Nat.zero_le, Nat.reduceAdd, Nat.reduceLeDiff, true_and, and_true, ykl_i, ykl_r, ykl_n, ykl_l]
end

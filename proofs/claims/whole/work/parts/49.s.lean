/-! ===== calls that change: fill, limit, damage, undo; error offset and ending ===== -/
theorem ychan_of {x : Int32} (h : ychan x = true) : ∃ n, n < 256 ∧ x = yI n := by
  obtain ⟨n, hn, e⟩ := yrange (m := 255) (by decide) (of_decide_eq_true h)
  exact ⟨n, by omega, e⟩
theorem ycols_eq {r g b : Int32} (h : ycols r g b = true) : yrgb r g b = ycolor r g b := by
  unfold ycols at h
  simp only [Bool.and_eq_true] at h
  obtain ⟨rn, hr, rfl⟩ := ychan_of h.1
  obtain ⟨gn, hg, rfl⟩ := ychan_of h.2.1
  obtain ⟨bn, hb, rfl⟩ := ychan_of h.2.2
  rw [yrgb_nat hr hg hb, ycolor_nat]
theorem yFm_s1 {t : yT} {j : Nat} {v : Int32} : yFm t (t.s1 160 j v) := yFr_s1 (by omega)
theorem yFm_trans {t u v : yT} (h : yFm t u) (h' : yFm u v) : yFm t v := h.trans h' (fun a h => by omega)
theorem yFm_fr {P : Nat → Prop} {t u : yT} (h : yFr P t u) (hP : ∀ a, P a → 160 ≤ a ∧ a ≠ 183) : yFm t u := h.mono hP
theorem yrange_no {x : Int32} {m : Nat} (h : decide ((0 : Int32) ≤ x ∧ x ≤ yI m) = false) (h0 : ¬ x < 0) : ¬ x ≤ yI m := fun h1 => of_decide_eq_false h ⟨Int32.not_lt.mp h0, h1⟩
section
variable {d : Nat} {t : yT} {D : yD} {k : Nat} {E : Nat → yD} {s0 s1 : Option yD} {n : Nat} {B : Nat → Nat} {eo en : Int32}
/- fill -/
theorem q_108 (C : yCI t D k E s0 s1 n B eo en) {f q : Nat} {r g b : Int32} (hf : yisp D (yI f) = true) (hq : yisp D (yI q) = true) (hfn : f < D.n) (hqn : q < D.n) (hfq : f ≤ q) (hc : ycols r g b = true) : ∃ u, Ra (d + 2) 108 [.ref 0, .int (yI f), .int (yI q), .int r, .int g, .int b] (yemb t) (.inl (some (.int (ypt (ycolor r g b) (q + 1 - f) f 0 D).1))) (yemb u) ∧ (yCI u (ypt (ycolor r g b) (q + 1 - f) f 0 D).2 (min 8 (k + 1)) (ypush D E) s0 s1 n B eo en ∧ yFr (fun a => a < 160) t u) := by
  have hn40 := C.1.ok.n40
  obtain ⟨u1, h1, C1, F1⟩ := q_6 (d := d) C
  obtain ⟨u2, h2, W2, F2⟩ := m_39 (d := d + 1) (c := ycolor r g b) (f := f) (q := q) (by omega) (by omega) C1.1
  have e0 : yff D (yI f) (yI q) r g b = 0 := by
    unfold yff
    have : ¬ yI q < yI f := fun h => absurd ((yI_lt (by omega) (by omega)).mp h) (by omega)
    simp [hf, hq, hc, this]
  have g1 := fun Q' => m_38 (d := d) C.1 (f := yI f) (q := yI q) (r := r) (g := g) (b := b) Q'
  rw [e0] at g1
  refine ⟨u2, fun Q => ?_, yCI_D C1 F2 (fun a h => by omega) W2, F1.trans F2 (fun a h => by omega)⟩
  show G (d + 2) 108 0 [some (.ref 0), some (.int (yI f)), some (.int (yI q)), some (.int r), some (.int g), some (.int b), none] [] (yemb t) Q ↔ _
  simp only [s_108_0, s_108_1, s_108_2, s_108_3, s_108_4, s_108_5, s_108_6, s_108_7, s_108_8, s_108_9, s_108_10, s_108_11, s_108_12, s_108_13, s_108_13i, s_108_16, s_108_17, s_108_18, s_108_19, s_108_19i, s_108_22, s_108_23, s_108_24, s_108_25, s_108_26, s_108_27, s_108_28, s_108_29, s_108_30, s_108_31, s_108_32, s_108_33, s_108_34, s_108_35, s_108_36, yO_0, yO_7, yO_38, g1, show ¬ (0 : Int32) = 3 from by decide, ne_eq, not_false_eq_true, if_true, h1, m_121, ycols_eq hc, h2, Gk_v, Gk_n, xcat_nil, xcat_i, xcat_r, xcat_l, xcat_d, Nat.zero_le, Nat.reduceAdd, Nat.reduceLeDiff, true_and, and_true, ykl_i, ykl_r, ykl_n, ykl_l]
theorem q_108t (C : yCI t D k E s0 s1 n B eo en) {f q r g b : Int32} (hz : t.z.1.1 < 900000) : (yff D f q r g b = 3 → Ra (d + 2) 108 [.ref 0, .int f, .int q, .int r, .int g, .int b] (yemb t) (.inr 1) (yemb t.bp)) ∧ (yff D f q r g b = 2 → Ra (d + 2) 108 [.ref 0, .int f, .int q, .int r, .int g, .int b] (yemb t) (.inr 0) (yemb t.bp)) := by
  have g1 := fun Q' => m_38 (d := d) C.1 (f := f) (q := q) (r := r) (g := g) (b := b) Q'
  constructor
  · intro h3 Q
    rw [h3] at g1
    show G (d + 2) 108 0 [some (.ref 0), some (.int f), some (.int q), some (.int r), some (.int g), some (.int b), none] [] (yemb t) Q ↔ _
    simp only [s_108_0, s_108_1, s_108_2, s_108_3, s_108_4, s_108_5, s_108_6, s_108_7, s_108_8, s_108_9, s_108_10, s_108_11, s_108_12, s_108_13, s_108_13i, s_108_16, s_108_17, s_108_18, s_108_19, s_108_19i, s_108_22, s_108_23, s_108_24, s_108_25, s_108_26, s_108_27, s_108_28, s_108_29, s_108_30, s_108_31, s_108_32, s_108_33, s_108_34, s_108_35, s_108_36, yO_0, yO_7, g1, ne_eq, not_true_eq_false, if_false, xbump_z hz, xbump_emb, Gk_v, Gk_n, xcat_nil, xcat_i, xcat_r, xcat_l, xcat_d, Nat.zero_le, Nat.reduceAdd, Nat.reduceLeDiff, true_and, and_true, ykl_i, ykl_r, ykl_n, ykl_l]
  · intro h3 Q
    rw [h3] at g1
    show G (d + 2) 108 0 [some (.ref 0), some (.int f), some (.int q), some (.int r), some (.int g), some (.int b), none] [] (yemb t) Q ↔ _
    simp only [s_108_0, s_108_1, s_108_2, s_108_3, s_108_4, s_108_5, s_108_6, s_108_7, s_108_8, s_108_9, s_108_10, s_108_11, s_108_12, s_108_13, s_108_13i, s_108_16, s_108_17, s_108_18, s_108_19, s_108_19i, s_108_22, s_108_23, s_108_24, s_108_25, s_108_26, s_108_27, s_108_28, s_108_29, s_108_30, s_108_31, s_108_32, s_108_33, s_108_34, s_108_35, s_108_36, yO_0, yO_7, g1, show ¬ (2 : Int32) = 3 from by decide, show ¬ (2 : Int32) = 0 from by decide, ne_eq, not_false_eq_true, if_true, if_false, xbump_z hz, xbump_emb, Gk_v, Gk_n, xcat_nil, xcat_i, xcat_r, xcat_l, xcat_d, Nat.zero_le, Nat.reduceAdd, Nat.reduceLeDiff, true_and, and_true, ykl_i, ykl_r, ykl_n, ykl_l]
theorem p_204 (M : yMI t D k E s0 s1 n B eo en) {f q : Nat} {r g b : Int32} (hf : yisp D (yI f) = true) (hq : yisp D (yI q) = true) (hfn : f < D.n) (hqn : q < D.n) (hfq : f ≤ q) (hc : ycols r g b = true) : ∃ u, Ra (d + 3) 204 [.ref 160, .int (yI f), .int (yI q), .int r, .int g, .int b] (yemb t) (.inl (some (.int (ypt (ycolor r g b) (q + 1 - f) f 0 D).1))) (yemb u) ∧ (yMI u (ypt (ycolor r g b) (q + 1 - f) f 0 D).2 (min 8 (k + 1)) (ypush D E) s0 s1 n B eo en ∧ (u.A 160 0 = 0 ∧ yFm t u)) := by
  have hn40 := M.1.ok.n40
  have M0 := yMI_s1 (j := 0) (v := 0) M (by decide)
  obtain ⟨u1, h1, M1, hj, F1⟩ := p_203 (d := d + 1) M0
  rw [ys1_same] at hj
  obtain ⟨u2, h2, M2, F2⟩ := m_181 (d := d) (c := ycolor r g b) (f := f) (q := q) (by omega) (by omega) M1.1
  have c1 : ¬ yI q < yI f := fun h => absurd ((yI_lt (by omega) (by omega)).mp h) (by omega)
  have g1 := fun Q' => m_185' (d := d + 1) M0.1 (p := yI f) ys1_same Q'
  have g2 := fun Q' => m_185' (d := d + 1) M0.1 (p := yI q) ys1_same Q'
  rw [hf] at g1
  rw [hq] at g2
  refine ⟨u2, fun Q => ?_, yMI_D M1 F2 (fun a h => by omega) M2, by rw [F2.A (by omega)]; exact hj, yFm_trans (yFm_trans yFm_s1 F1) (yFm_fr F2 (fun a h => by omega))⟩
  show G (d + 3) 204 0 [some (.ref 160), some (.int (yI f)), some (.int (yI q)), some (.int r), some (.int g), some (.int b)] [] (yemb t) Q ↔ _
  simp only [s_204_0, s_204_1, s_204_2, s_204_3, s_204_4, s_204_5, s_204_6, s_204_7, s_204_8, s_204_9, s_204_10, s_204_11, s_204_12, s_204_13, s_204_14, s_204_15, s_204_16, s_204_17, s_204_18, s_204_19, s_204_20, s_204_21, s_204_22, s_204_23, s_204_24, s_204_25, s_204_26, s_204_27, s_204_28, s_204_29, s_204_30, s_204_31, s_204_32, s_204_33, s_204_34, s_204_35, s_204_36, s_204_37, s_204_38, yO_160, g1, g2, c1, m_184, hc, ifb, ifbn, Bool.not_true, Bool.false_eq_true, if_true, if_false, m_124f yne20 ys1_same, h1, m_146, h2, Gk_v, Gk_n, xcat_nil, xcat_i, xcat_r, xcat_l, xcat_d, Nat.zero_le, Nat.reduceAdd, Nat.reduceLeDiff, true_and, and_true, ykl_i, ykl_r, ykl_n, ykl_l]
theorem p_204t (M : yMI t D k E s0 s1 n B eo en) {f q r g b : Int32} : (yff D f q r g b = 3 → ∃ u, Ra (d + 3) 204 [.ref 160, .int f, .int q, .int r, .int g, .int b] (yemb t) (.inl (some (.int 0))) (yemb u) ∧ (yMI u D k E s0 s1 n B eo en ∧ (u.A 160 0 = 1 ∧ yFm t u))) ∧ (yff D f q r g b = 2 → ∃ u, Ra (d + 3) 204 [.ref 160, .int f, .int q, .int r, .int g, .int b] (yemb t) (.inl (some (.int 0))) (yemb u) ∧ (yMI u D k E s0 s1 n B eo en ∧ (u.A 160 0 = 2 ∧ yFm t u))) := by
  have M0 := yMI_s1 (j := 0) (v := 0) M (by decide)
  have g1 := fun Q' => m_185' (d := d + 1) M0.1 (p := f) ys1_same Q'
  have g2 := fun Q' => m_185' (d := d + 1) M0.1 (p := q) ys1_same Q'
  constructor
  · intro h3
    refine ⟨(t.s1 160 0 0).s1 160 0 1, fun Q => ?_, yMI_s1 M0 (by decide), ys1_same, yFm_trans yFm_s1 yFm_s1⟩
    show G (d + 3) 204 0 [some (.ref 160), some (.int f), some (.int q), some (.int r), some (.int g), some (.int b)] [] (yemb t) Q ↔ _
    cases hf : yisp D f
    · rw [hf] at g1
      simp only [s_204_0, s_204_1, s_204_2, s_204_3, s_204_4, s_204_5, s_204_6, s_204_7, s_204_8, s_204_9, s_204_10, s_204_11, s_204_12, s_204_13, s_204_14, s_204_15, s_204_16, s_204_17, s_204_18, s_204_19, s_204_20, s_204_21, s_204_22, s_204_23, s_204_24, s_204_25, s_204_26, s_204_27, s_204_28, s_204_29, s_204_30, s_204_31, s_204_32, s_204_33, s_204_34, s_204_35, s_204_36, s_204_37, s_204_38, yO_160, g1, ifb, ifbn, Bool.not_false, if_true, Gk_v, Gk_n, xcat_nil, xcat_i, xcat_r, xcat_l, xcat_d, Nat.zero_le, Nat.reduceAdd, Nat.reduceLeDiff, true_and, and_true, ykl_i, ykl_r, ykl_n, ykl_l]
    · cases hq : yisp D q
      · rw [hf] at g1
        rw [hq] at g2
        simp only [s_204_0, s_204_1, s_204_2, s_204_3, s_204_4, s_204_5, s_204_6, s_204_7, s_204_8, s_204_9, s_204_10, s_204_11, s_204_12, s_204_13, s_204_14, s_204_15, s_204_16, s_204_17, s_204_18, s_204_19, s_204_20, s_204_21, s_204_22, s_204_23, s_204_24, s_204_25, s_204_26, s_204_27, s_204_28, s_204_29, s_204_30, s_204_31, s_204_32, s_204_33, s_204_34, s_204_35, s_204_36, s_204_37, s_204_38, yO_160, g1, g2, ifb, ifbn, Bool.not_false, Bool.not_true, Bool.false_eq_true, if_true, if_false, Gk_v, Gk_n, xcat_nil, xcat_i, xcat_r, xcat_l, xcat_d, Nat.zero_le, Nat.reduceAdd, Nat.reduceLeDiff, true_and, and_true, ykl_i, ykl_r, ykl_n, ykl_l]
      · exfalso
        unfold yff at h3
        rw [hf, hq] at h3
        simp only [Bool.not_true, Bool.or_self, Bool.false_eq_true, if_false] at h3
        split at h3 <;> exact absurd h3 (by decide)
  · intro h2
    cases hf : yisp D f
    · exfalso
      unfold yff at h2
      rw [hf] at h2
      simp only [Bool.not_false, Bool.true_or, if_true] at h2
      exact absurd h2 (by decide)
    · cases hq : yisp D q
      · exfalso
        unfold yff at h2
        rw [hf, hq] at h2
        simp only [Bool.not_false, Bool.or_true, if_true] at h2
        exact absurd h2 (by decide)
      · rw [hf] at g1
        rw [hq] at g2
        unfold yff at h2
        rw [hf, hq] at h2
        refine ⟨(t.s1 160 0 0).s1 160 0 2, fun Q => ?_, yMI_s1 M0 (by decide), ys1_same, yFm_trans yFm_s1 yFm_s1⟩
        show G (d + 3) 204 0 [some (.ref 160), some (.int f), some (.int q), some (.int r), some (.int g), some (.int b)] [] (yemb t) Q ↔ _
        by_cases hlt : q < f
        · simp only [s_204_0, s_204_1, s_204_2, s_204_3, s_204_4, s_204_5, s_204_6, s_204_7, s_204_8, s_204_9, s_204_10, s_204_11, s_204_12, s_204_13, s_204_14, s_204_15, s_204_16, s_204_17, s_204_18, s_204_19, s_204_20, s_204_21, s_204_22, s_204_23, s_204_24, s_204_25, s_204_26, s_204_27, s_204_28, s_204_29, s_204_30, s_204_31, s_204_32, s_204_33, s_204_34, s_204_35, s_204_36, s_204_37, s_204_38, yO_160, g1, g2, hlt, ifb, ifbn, Bool.not_true, Bool.false_eq_true, if_true, if_false, m_124t yne20 ys1_same, yne10, Gk_v, Gk_n, xcat_nil, xcat_i, xcat_r, xcat_l, xcat_d, Nat.zero_le, Nat.reduceAdd, Nat.reduceLeDiff, true_and, and_true, ykl_i, ykl_r, ykl_n, ykl_l]
        · cases hc : ycols r g b
          · simp only [s_204_0, s_204_1, s_204_2, s_204_3, s_204_4, s_204_5, s_204_6, s_204_7, s_204_8, s_204_9, s_204_10, s_204_11, s_204_12, s_204_13, s_204_14, s_204_15, s_204_16, s_204_17, s_204_18, s_204_19, s_204_20, s_204_21, s_204_22, s_204_23, s_204_24, s_204_25, s_204_26, s_204_27, s_204_28, s_204_29, s_204_30, s_204_31, s_204_32, s_204_33, s_204_34, s_204_35, s_204_36, s_204_37, s_204_38, yO_160, g1, g2, hlt, m_184, hc, ifb, ifbn, Bool.not_true, Bool.false_eq_true, if_true, if_false, m_124t yne20 ys1_same, yne10, Gk_v, Gk_n, xcat_nil, xcat_i, xcat_r, xcat_l, xcat_d, Nat.zero_le, Nat.reduceAdd, Nat.reduceLeDiff, true_and, and_true, ykl_i, ykl_r, ykl_n, ykl_l]
          · exfalso
            rw [hc] at h2
            simp only [Bool.not_true, Bool.or_self, Bool.false_eq_true, if_false, hlt, decide_false] at h2
            exact absurd h2 (by decide)
theorem yff_3 {f q r g b : Int32} : yff D f q r g b = 3 ∨ (yff D f q r g b = 2 ∨ (yisp D f = true ∧ (yisp D q = true ∧ (¬ q < f ∧ ycols r g b = true)))) := by
  unfold yff
  cases hf : yisp D f
  · left; simp
  · cases hq : yisp D q
    · left; simp
    · by_cases hlt : q < f
      · right; left; simp [hlt]
      · cases hc : ycols r g b
        · right; left; simp
        · right; right; exact ⟨rfl, rfl, hlt, rfl⟩
theorem k_235 (I : yInv t) (hz : t.z.1.1 < 900000) (f q r g b : Int32) : ∃ u1 u c v, Ra (d + 3) 235 [.ref 0, .int f, .int q, .int r, .int g, .int b, .ref 183] (yemb t) (.inl (some (.int c))) (yemb u1) ∧ (Ra (d + 3) 204 [.ref 160, .int f, .int q, .int r, .int g, .int b] (yemb u1) (.inl (some (.int v))) (yemb u) ∧ yOK t u c v.toInt64) := by
  obtain ⟨⟨D, k, E, s0, s1, n, B, eo, en, C, M⟩, Z⟩ := I
  rcases yff_3 (D := D) (f := f) (q := q) (r := r) (g := g) (b := b) with h | h | ⟨hf, hq, hlt, hc⟩
  · obtain ⟨u, hu, M1, h0, Fm⟩ := (p_204t (d := d) (f := f) (q := q) (r := r) (g := g) (b := b) (yMI_c M yFc_bp)).1 h
    exact ⟨_, u, 1, 0, h_235_1 ((q_108t C hz).1 h), hu, yOK_of Z yFc_bp (yCI_bp C) Fm M1 h0 (fun h => absurd h yne10)⟩
  · obtain ⟨u, hu, M1, h0, Fm⟩ := (p_204t (d := d) (f := f) (q := q) (r := r) (g := g) (b := b) (yMI_c M yFc_bp)).2 h
    exact ⟨_, u, 2, 0, h_235_0 ((q_108t C hz).2 h), hu, yOK_of Z yFc_bp (yCI_bp C) Fm M1 h0 (fun h => absurd h yne20)⟩
  · have hn40 := C.1.ok.n40
    obtain ⟨fn, hfn, rfl⟩ := yisp_of hn40 hf
    obtain ⟨qn, hqn, rfl⟩ := yisp_of hn40 hq
    have hfq : fn ≤ qn := by
      have h1 : ¬ qn < fn := fun h => hlt ((yI_lt (by omega) (by omega)).mpr h)
      omega
    obtain ⟨u1, h1, C1, F1⟩ := q_108 (d := d) C hf hq hfn hqn hfq hc
    have Fc := yFc_out (j := 0) (v := ((ypt (ycolor r g b) (qn + 1 - fn) fn 0 D).1).toInt64) (yFc_fr F1 (fun a h => Or.inl h))
    obtain ⟨u, hu, M1, h0, Fm⟩ := p_204 (d := d) (yMI_c M Fc) hf hq hfn hqn hfq hc
    exact ⟨_, u, 0, _, h_235 h1, hu, yOK_of Z Fc (yCI_out C1) Fm M1 h0 (fun _ => yoL)⟩
/- limit -/
theorem yisf_of {g : Int32} (h1 : D.f ≤ 6) (h : yisf D g = true) : ∃ q, q < D.f ∧ g = yI q := by
  have h' := of_decide_eq_true h
  obtain ⟨q, hq, rfl⟩ := yI_of (Int32.not_lt.mpr h'.1)
  exact ⟨q, (yI_lt hq (by omega)).mp h'.2, rfl⟩
theorem yDok_fl {g l : Nat} (h : yDok D) (hl : l < 10000) : yDok (D.sfl (upd D.fl g (yI l))) := by
  refine ⟨h.n1, h.n40, h.f1, h.f6, h.fp0, h.fpm, h.fpn, h.ogm, ?_, h.2.2.2.2.2.2.2.2.2⟩
  intro q hq
  show ∃ m, m < 10000 ∧ upd D.fl g (yI l) q = yI m
  by_cases e : q = g
  · rw [e, yupd_same]
    exact ⟨l, hl, rfl⟩
  · rw [yupd_ne e]
    exact h.fll q hq
theorem q_114 (C : yCI t D k E s0 s1 n B eo en) {g l : Nat} (hg : g < D.f) (hc : yisf D (yI g) = true) (hl : l < 10000) : ∃ u, Ra (d + 2) 114 [.ref 0, .int (yI g), .int (yI l)] (yemb t) (.inl (some (.int (D.fl g)))) (yemb u) ∧ (yCI u (D.sfl (upd D.fl g (yI l))) (min 8 (k + 1)) (ypush D E) s0 s1 n B eo en ∧ yFr (fun a => a < 160) t u) := by
  have hf6 := C.1.ok.f6
  obtain ⟨u1, h1, C1, F1⟩ := q_6 (d := d) C
  have W2 : yW (u1.s1 (7 + 9) g (yI l)) 7 (D.sfl (upd D.fl g (yI l))) := ⟨yDok_fl C.1.ok hl, yV_sfl C1.1.v⟩
  have g1 := fun Q' => m_33' (d := d + 1) C.1 (j := yI g) Q'
  have c1 : ¬ yI l < 0 := yI_nneg (by omega)
  have c2 : yI l ≤ 9999 := (yI_le (m := 9999) (by omega) (by decide)).mpr (by omega)
  have c3 : yix (yI g) 6 := yix_I (by omega) (by omega)
  have c4 : (yI g).toNatClampNeg = g := yI_clamp (by omega)
  have c5 : u1.A 16 g = D.fl g := C1.1.fl g hg
  refine ⟨u1.s1 (7 + 9) g (yI l), fun Q => ?_, yCI_D C1 (yFr_s1 (P := fun a => a = 16) rfl) (fun a h => by omega) W2, F1.trans (yFr_s1 (P := fun a => a = 16) rfl) (fun a h => by omega)⟩
  show G (d + 2) 114 0 [some (.ref 0), some (.int (yI g)), some (.int (yI l)), none] [] (yemb t) Q ↔ _
  simp only [s_114_0, s_114_1, s_114_2, s_114_3, s_114_4, s_114_5, s_114_6, s_114_6i, s_114_9, s_114_10, s_114_11, s_114_12, s_114_13, s_114_14, s_114_15, s_114_15i, s_114_18, s_114_19, s_114_20, s_114_21, s_114_22, s_114_23, s_114_24, s_114_25, s_114_26, s_114_27, s_114_28, s_114_29, s_114_30, s_114_31, s_114_32, s_114_33, s_114_34, s_114_35, s_114_36, yO_0, yO_7, yO_38, yA_16, yn_16, g1, hc, ifbn, if_true, if_false, c1, c2, c3, c4, c5, h1, Gk_v, Gk_n, xcat_nil, xcat_i, xcat_r, xcat_l, xcat_d, Nat.zero_le, Nat.reduceAdd, Nat.reduceLeDiff, true_and, and_true, ykl_i, ykl_r, ykl_n, ykl_l]
theorem q_114t (C : yCI t D k E s0 s1 n B eo en) {g l : Int32} (hz : t.z.1.1 < 900000) : (yisf D g = false → Ra (d + 2) 114 [.ref 0, .int g, .int l] (yemb t) (.inr 1) (yemb t.bp)) ∧ (yisf D g = true → yin0 9999 l = false → Ra (d + 2) 114 [.ref 0, .int g, .int l] (yemb t) (.inr 0) (yemb t.bp)) := by
  have g1 := fun Q' => m_33' (d := d + 1) C.1 (j := g) Q'
  constructor
  · intro hc Q
    rw [hc] at g1
    show G (d + 2) 114 0 [some (.ref 0), some (.int g), some (.int l), none] [] (yemb t) Q ↔ _
    simp only [s_114_0, s_114_1, s_114_2, s_114_3, s_114_4, s_114_5, s_114_6, s_114_6i, s_114_9, s_114_10, s_114_11, s_114_12, s_114_13, s_114_14, s_114_15, s_114_15i, s_114_18, s_114_19, s_114_20, s_114_21, s_114_22, s_114_23, s_114_24, s_114_25, s_114_26, s_114_27, s_114_28, s_114_29, s_114_30, s_114_31, s_114_32, s_114_33, s_114_34, s_114_35, s_114_36, yO_0, yO_7, g1, ifbn, Bool.false_eq_true, if_false, xbump_z hz, xbump_emb, Gk_v, Gk_n, xcat_nil, xcat_i, xcat_r, xcat_l, xcat_d, Nat.zero_le, Nat.reduceAdd, Nat.reduceLeDiff, true_and, and_true, ykl_i, ykl_r, ykl_n, ykl_l]
  · intro hc hl Q
    rw [hc] at g1
    show G (d + 2) 114 0 [some (.ref 0), some (.int g), some (.int l), none] [] (yemb t) Q ↔ _
    by_cases c1 : l < 0
    · simp only [s_114_0, s_114_1, s_114_2, s_114_3, s_114_4, s_114_5, s_114_6, s_114_6i, s_114_9, s_114_10, s_114_11, s_114_12, s_114_13, s_114_14, s_114_15, s_114_15i, s_114_18, s_114_19, s_114_20, s_114_21, s_114_22, s_114_23, s_114_24, s_114_25, s_114_26, s_114_27, s_114_28, s_114_29, s_114_30, s_114_31, s_114_32, s_114_33, s_114_34, s_114_35, s_114_36, yO_0, yO_7, g1, ifbn, if_true, c1, xbump_z hz, xbump_emb, Gk_v, Gk_n, xcat_nil, xcat_i, xcat_r, xcat_l, xcat_d, Nat.zero_le, Nat.reduceAdd, Nat.reduceLeDiff, true_and, and_true, ykl_i, ykl_r, ykl_n, ykl_l]
    · have c2 : ¬ l ≤ 9999 := yrange_no hl c1
      simp only [s_114_0, s_114_1, s_114_2, s_114_3, s_114_4, s_114_5, s_114_6, s_114_6i, s_114_9, s_114_10, s_114_11, s_114_12, s_114_13, s_114_14, s_114_15, s_114_15i, s_114_18, s_114_19, s_114_20, s_114_21, s_114_22, s_114_23, s_114_24, s_114_25, s_114_26, s_114_27, s_114_28, s_114_29, s_114_30, s_114_31, s_114_32, s_114_33, s_114_34, s_114_35, s_114_36, yO_0, yO_7, g1, ifbn, if_true, if_false, c1, c2, xbump_z hz, xbump_emb, Gk_v, Gk_n, xcat_nil, xcat_i, xcat_r, xcat_l, xcat_d, Nat.zero_le, Nat.reduceAdd, Nat.reduceLeDiff, true_and, and_true, ykl_i, ykl_r, ykl_n, ykl_l]
theorem p_210 (M : yMI t D k E s0 s1 n B eo en) {g l : Nat} (hg : g < D.f) (hc : yisf D (yI g) = true) (hl : l < 10000) : ∃ u, Ra (d + 2) 210 [.ref 160, .int (yI g), .int (yI l)] (yemb t) (.inl (some (.int (D.fl g)))) (yemb u) ∧ (yMI u (D.sfl (upd D.fl g (yI l))) (min 8 (k + 1)) (ypush D E) s0 s1 n B eo en ∧ (u.A 160 0 = 0 ∧ yFm t u)) := by
  have hf6 := M.1.ok.f6
  have M0 := yMI_s1 (j := 0) (v := 0) M (by decide)
  obtain ⟨u1, h1, M1, hj, F1⟩ := p_203 (d := d) M0
  rw [ys1_same] at hj
  have M2 : yM ((u1.s1 162 (328 + 2 * g + 1) (yI l)).A 162) (D.sfl (upd D.fl g (yI l))) := ⟨yDok_fl M.1.ok hl, by rw [ys1_upd]; exact yN_sfl M1.1.v hg hf6⟩
  have g1 := fun Q' => m_186 (d := d) M0.1 (p := yI g) ys1_same Q'
  rw [hc] at g1
  have c1 : (decide ((0 : Int32) ≤ yI l ∧ yI l ≤ 9999)) = true := decide_eq_true ⟨(yI_le (n := 0) (by decide) (by omega)).mpr (Nat.zero_le _), (yI_le (m := 9999) (by omega) (by decide)).mpr (by omega)⟩
  have e1 : yI (328 + 2 * g) + 1 = yI (328 + 2 * g + 1) := yI_add
  have c3 : yix (yI (328 + 2 * g + 1)) 1540 := yix_I (by omega) (by omega)
  have c4 : (yI (328 + 2 * g + 1)).toNatClampNeg = 328 + 2 * g + 1 := yI_clamp (by omega)
  have c5 : u1.A 162 (328 + 2 * g + 1) = D.fl g := M1.1.fl g hg
  refine ⟨_, fun Q => ?_, yMI_D M1 (yFr_s1 (P := fun a => a = 162) rfl) (fun a h => by omega) M2, by rw [ys1_ne (by decide)]; exact hj, yFm_trans (yFm_trans yFm_s1 F1) (yFr_s1 (by omega))⟩
  show G (d + 2) 210 0 [some (.ref 160), some (.int (yI g)), some (.int (yI l)), none] [] (yemb t) Q ↔ _
  simp only [s_210_0, s_210_1, s_210_2, s_210_3, s_210_4, s_210_5, s_210_6, s_210_7, s_210_8, s_210_9, s_210_10, s_210_11, s_210_12, s_210_13, s_210_14, s_210_15, s_210_16, s_210_17, s_210_18, s_210_19, s_210_20, s_210_21, s_210_22, s_210_23, s_210_24, s_210_25, s_210_26, s_210_27, s_210_28, s_210_29, s_210_30, s_210_31, s_210_32, s_210_33, s_210_34, s_210_35, s_210_36, s_210_37, s_210_38, s_210_39, s_210_40, yO_160, yA_162, yn_162, g1, m_125, c1, ifb, ifbn, Bool.not_true, Bool.false_eq_true, if_true, if_false, m_124f yne20 ys1_same, h1, m_161, e1, c3, c4, c5, Gk_v, Gk_n, xcat_nil, xcat_i, xcat_r, xcat_l, xcat_d, Nat.zero_le, Nat.reduceAdd, Nat.reduceLeDiff, true_and, and_true, ykl_i, ykl_r, ykl_n, ykl_l]
theorem p_210t (M : yMI t D k E s0 s1 n B eo en) {g l : Int32} : (yisf D g = false → ∃ u, Ra (d + 2) 210 [.ref 160, .int g, .int l] (yemb t) (.inl (some (.int 0))) (yemb u) ∧ (yMI u D k E s0 s1 n B eo en ∧ (u.A 160 0 = 1 ∧ yFm t u))) ∧ (yisf D g = true → yin0 9999 l = false → ∃ u, Ra (d + 2) 210 [.ref 160, .int g, .int l] (yemb t) (.inl (some (.int 0))) (yemb u) ∧ (yMI u D k E s0 s1 n B eo en ∧ (u.A 160 0 = 2 ∧ yFm t u))) := by
  have M0 := yMI_s1 (j := 0) (v := 0) M (by decide)
  have g1 := fun Q' => m_186 (d := d) M0.1 (p := g) ys1_same Q'
  constructor
  · intro hc
    rw [hc] at g1
    refine ⟨(t.s1 160 0 0).s1 160 0 1, fun Q => ?_, yMI_s1 M0 (by decide), ys1_same, yFm_trans yFm_s1 yFm_s1⟩
    show G (d + 2) 210 0 [some (.ref 160), some (.int g), some (.int l), none] [] (yemb t) Q ↔ _
    simp only [s_210_0, s_210_1, s_210_2, s_210_3, s_210_4, s_210_5, s_210_6, s_210_7, s_210_8, s_210_9, s_210_10, s_210_11, s_210_12, s_210_13, s_210_14, s_210_15, s_210_16, s_210_17, s_210_18, s_210_19, s_210_20, s_210_21, s_210_22, s_210_23, s_210_24, s_210_25, s_210_26, s_210_27, s_210_28, s_210_29, s_210_30, s_210_31, s_210_32, s_210_33, s_210_34, s_210_35, s_210_36, s_210_37, s_210_38, s_210_39, s_210_40, yO_160, g1, ifb, ifbn, Bool.not_false, if_true, Gk_v, Gk_n, xcat_nil, xcat_i, xcat_r, xcat_l, xcat_d, Nat.zero_le, Nat.reduceAdd, Nat.reduceLeDiff, true_and, and_true, ykl_i, ykl_r, ykl_n, ykl_l]
  · intro hc hl
    rw [hc] at g1
    have c1 : (decide ((0 : Int32) ≤ l ∧ l ≤ 9999)) = false := hl
    refine ⟨(t.s1 160 0 0).s1 160 0 2, fun Q => ?_, yMI_s1 M0 (by decide), ys1_same, yFm_trans yFm_s1 yFm_s1⟩
    show G (d + 2) 210 0 [some (.ref 160), some (.int g), some (.int l), none] [] (yemb t) Q ↔ _
    simp only [s_210_0, s_210_1, s_210_2, s_210_3, s_210_4, s_210_5, s_210_6, s_210_7, s_210_8, s_210_9, s_210_10, s_210_11, s_210_12, s_210_13, s_210_14, s_210_15, s_210_16, s_210_17, s_210_18, s_210_19, s_210_20, s_210_21, s_210_22, s_210_23, s_210_24, s_210_25, s_210_26, s_210_27, s_210_28, s_210_29, s_210_30, s_210_31, s_210_32, s_210_33, s_210_34, s_210_35, s_210_36, s_210_37, s_210_38, s_210_39, s_210_40, yO_160, g1, m_125, c1, ifb, ifbn, Bool.not_true, Bool.false_eq_true, if_true, if_false, m_124t yne20 ys1_same, yne10, Gk_v, Gk_n, xcat_nil, xcat_i, xcat_r, xcat_l, xcat_d, Nat.zero_le, Nat.reduceAdd, Nat.reduceLeDiff, true_and, and_true, ykl_i, ykl_r, ykl_n, ykl_l]
theorem k_241 (I : yInv t) (hz : t.z.1.1 < 900000) (g l : Int32) : ∃ u1 u c v, Ra (d + 3) 241 [.ref 0, .int g, .int l, .ref 183] (yemb t) (.inl (some (.int c))) (yemb u1) ∧ (Ra (d + 2) 210 [.ref 160, .int g, .int l] (yemb u1) (.inl (some (.int v))) (yemb u) ∧ yOK t u c v.toInt64) := by
  obtain ⟨⟨D, k, E, s0, s1, n, B, eo, en, C, M⟩, Z⟩ := I
  cases hc : yisf D g
  · obtain ⟨u, hu, M1, h0, Fm⟩ := (p_210t (d := d) (g := g) (l := l) (yMI_c M yFc_bp)).1 hc
    exact ⟨_, u, 1, 0, h_241_1 ((q_114t C hz).1 hc), hu, yOK_of Z yFc_bp (yCI_bp C) Fm M1 h0 (fun h => absurd h yne10)⟩
  · cases hl : yin0 9999 l
    · obtain ⟨u, hu, M1, h0, Fm⟩ := (p_210t (d := d) (g := g) (l := l) (yMI_c M yFc_bp)).2 hc hl
      exact ⟨_, u, 2, 0, h_241_0 ((q_114t C hz).2 hc hl), hu, yOK_of Z yFc_bp (yCI_bp C) Fm M1 h0 (fun h => absurd h yne20)⟩
    · obtain ⟨q, hq, rfl⟩ := yisf_of C.1.ok.f6 hc
      obtain ⟨ln, hln, rfl⟩ := yrange (m := 9999) (by decide) (of_decide_eq_true hl)
      obtain ⟨u1, h1, C1, F1⟩ := q_114 (d := d) C hq hc (l := ln) (by omega)
      have Fc := yFc_out (j := 0) (v := (D.fl q).toInt64) (yFc_fr F1 (fun a h => Or.inl h))
      obtain ⟨u, hu, M1, h0, Fm⟩ := p_210 (d := d) (yMI_c M Fc) hq hc (l := ln) (by omega)
      exact ⟨_, u, 0, _, h_241 h1, hu, yOK_of Z Fc (yCI_out C1) Fm M1 h0 (fun _ => yoL)⟩
/- error offset, ending -/
theorem k_97 (I : yInv t) : ∃ u v, Ra d 97 [.ref 0] (yemb t) (.inl (some (.int v))) (yemb t) ∧ (Ra d 151 [.ref 160] (yemb t) (.inl (some (.int v))) (yemb u) ∧ yOK t u 0 (t.L 183 0)) := by
  obtain ⟨⟨D, k, E, s0, s1, n, B, eo, en, C, M⟩, Z⟩ := I
  have e1 : t.A 0 11 = eo := C.2.2.2.2.1
  have M0 := yMI_s1 (j := 0) (v := 0) M (by decide)
  have e2 : (t.s1 160 0 0).A 160 7 = eo := M0.2.2.2.2.1
  refine ⟨t.s1 160 0 0, eo, fun Q => ?_, fun Q => ?_, yOK_of Z (yFc_fr yFr.rfl' (P := fun _ => False) (fun a h => h.elim)) C yFm_s1 M0 ys1_same (fun _ => rfl)⟩
  · show G d 97 0 [some (.ref 0)] [] (yemb t) Q ↔ _
    simp only [s_97_0, s_97_1, s_97_2, yO_0, e1]
  · show G d 151 0 [some (.ref 160)] [] (yemb t) Q ↔ _
    simp only [s_151_0, s_151_1, s_151_2, s_151_3, s_151_4, s_151_5, yO_160, e2]
theorem k_98 (I : yInv t) : ∃ u v, Ra d 98 [.ref 0] (yemb t) (.inl (some (.int v))) (yemb t) ∧ (Ra d 159 [.ref 160] (yemb t) (.inl (some (.int v))) (yemb u) ∧ yOK t u 0 (t.L 183 0)) := by
  obtain ⟨⟨D, k, E, s0, s1, n, B, eo, en, C, M⟩, Z⟩ := I
  have e1 : t.A 0 12 = en := C.2.2.2.2.2
  have M0 := yMI_s1 (j := 0) (v := 0) M (by decide)
  have e2 : (t.s1 160 0 0).A 160 8 = en := M0.2.2.2.2.2
  refine ⟨t.s1 160 0 0, en, fun Q => ?_, fun Q => ?_, yOK_of Z (yFc_fr yFr.rfl' (P := fun _ => False) (fun a h => h.elim)) C yFm_s1 M0 ys1_same (fun _ => rfl)⟩
  · show G d 98 0 [some (.ref 0)] [] (yemb t) Q ↔ _
    simp only [s_98_0, s_98_1, s_98_2, yO_0, e1]
  · show G d 159 0 [some (.ref 160)] [] (yemb t) Q ↔ _
    simp only [s_159_0, s_159_1, s_159_2, s_159_3, s_159_4, s_159_5, yO_160, e2]
end

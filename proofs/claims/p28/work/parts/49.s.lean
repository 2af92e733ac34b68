/-! ===== calls that change: fill, limit, damage, undo; error offset and ending ===== -/
theorem ychan_of {x : Int32} (h : ychan x = true) : ∃ n, n < 256 ∧ x = yI n := by
  obtain ⟨n, hn, e⟩ := yrange (m := 255) (by decide) (of_decide_eq_true h)
  exact ⟨n, by omega, e⟩
theorem ycols_eq {r g b : Int32} (h : ycols r g b = true) : yrgb r g b = ycolor r g b := by
  unfold ycols at h
  simp only [Bool.and_eq_true] at h
  obtain ⟨rn, hr, rfl⟩ := ychan_of h.1
  obtain ⟨gn, hg, rfl⟩ := ychan_of h.2.1
  obtain ⟨bn, hb, rfl⟩ := ychan_of h.2.2
  rw [yrgb_nat hr hg hb, ycolor_nat]
theorem yFm_s1 {t : yT} {j : Nat} {v : Int32} : yFm t (t.s1 160 j v) := yFr_s1 (by omega)
theorem yFm_trans {t u v : yT} (h : yFm t u) (h' : yFm u v) : yFm t v := h.trans h' (fun a h => by omega)
theorem yFm_fr {P : Nat → Prop} {t u : yT} (h : yFr P t u) (hP : ∀ a, P a → 160 ≤ a ∧ a ≠ 183) : yFm t u := h.mono hP
theorem yrange_no {x : Int32} {m : Nat} (h : decide ((0 : Int32) ≤ x ∧ x ≤ yI m) = false) (h0 : ¬ x < 0) : ¬ x ≤ yI m := fun h1 => of_decide_eq_false h ⟨Int32.not_lt.mp h0, h1⟩
section
variable {d : Nat} {t : yT} {D : yD} {k : Nat} {E : Nat → yD} {s0 s1 : Option yD} {n : Nat} {B : Nat → Nat} {eo en : Int32}
/- fill -/
theorem q_108 (C : yCI t D k E s0 s1 n B eo en) {f q : Nat} {r g b : Int32} (hf : yisp D (yI f) = true) (hq : yisp D (yI q) = true) (hfn : f < D.n) (hqn : q < D.n) (hfq : f ≤ q) (hc : ycols r g b = true) : ∃ u, Ra (d + 2) 108 [.ref 0, .int (yI f), .int (yI q), .int r, .int g, .int b] (yemb t) (.inl (some (.int (ypt (ycolor r g b) (q + 1 - f) f 0 D).1))) (yemb u) ∧ (yCI u (ypt (ycolor r g b) (q + 1 - f) f 0 D).2 (min 8 (k + 1)) (ypush D E) s0 s1 n B eo en ∧ yFr (fun a => a < 160) t u) := by
  have hn40 := C.1.ok.n40
  obtain ⟨u1, h1, C1, F1⟩ := q_6 (d := d) C
  obtain ⟨u2, h2, W2, F2⟩ := m_39 (d := d + 1) (c := ycolor r g b) (f := f) (q := q) (by omega) (by omega) C1.1
  have e0 : yff D (yI f) (yI q) r g b = 0 := by
    unfold yff
    have : ¬ yI q < yI f := fun h => absurd ((yI_lt (by omega) (by omega)).mp h) (by omega)
    simp [hf, hq, hc, this]
  have g1 := fun Q' => m_38 (d := d) C.1 (f := yI f) (q := yI q) (r := r) (g := g) (b := b) Q'
  rw [e0] at g1
  refine ⟨u2, fun Q => ?_, yCI_D C1 F2 (fun a h => by omega) W2, F1.trans F2 (fun a h => by omega)⟩
  show G (d + 2) 108 0 [some (.ref 0), some (.int (yI f)), some (.int (yI q)), some (.int r), some (.int g), some (.int b), none] [] (yemb t) Q ↔ _
  simp only [s_108_0, s_108_1, s_108_2, s_108_3, s_108_4, s_108_5, s_108_6, s_108_7, s_108_8, s_108_9, s_108_10, s_108_11, s_108_12, s_108_13, s_108_13i, s_108_16, s_108_17, s_108_18, s_108_19, s_108_19i, s_108_22, s_108_23, s_108_24, s_108_25, s_108_26, s_108_27, s_108_28, s_108_29, s_108_30, s_108_31, s_108_32, s_108_33, s_108_34, s_108_35, s_108_36, yO_0, yO_7, yO_38, g1, show ¬ (0 : Int32) = 3 from by decide, ne_eq, not_false_eq_true, if_true, h1, m_121, ycols_eq hc, h2, Gk_v, Gk_n, xcat_nil, xcat_i, xcat_r, xcat_l, xcat_d, Nat.zero_le, Nat.reduceAdd, Nat.reduceLeDiff, true_and, and_true, ykl_i, ykl_r, ykl_n, ykl_l]
theorem q_108t (C : yCI t D k E s0 s1 n B eo en) {f q r g b : Int32} (hz : t.z.1.1 < 900000) : (yff D f q r g b = 3 → Ra (d + 2) 108 [.ref 0, .int f, .int q, .int r, .int g, .int b] (yemb t) (.inr 1) (yemb t.bp)) ∧ (yff D f q r g b = 2 → Ra (d + 2) 108 [.ref 0, .int f, .int q, .int r, .int g, .int b] (yemb t) (.inr 0) (yemb t.bp)) := by
  have g1 := fun Q' => m_38 (d := d) C.1 (f := f) (q := q) (r := r) (g := g) (b := b) Q'
  constructor
  · intro h3 Q
    rw [h3] at g1
    show G (d + 2) 108 0 [some (.ref 0), some (.int f), some (.int q), some (.int r), some (.int g), some (.int b), none] [] (yemb t) Q ↔ _
    simp only [s_108_0, s_108_1, s_108_2, s_108_3, s_108_4, s_108_5, s_108_6, s_108_7, s_108_8, s_108_9, s_108_10, s_108_11, s_108_12, s_108_13, s_108_13i, s_108_16, s_108_17, s_108_18, s_108_19, s_108_19i, s_108_22, s_108_23, s_108_24, s_108_25, s_108_26, s_108_27, s_108_28, s_108_29, s_108_30, s_108_31, s_108_32, s_108_33, s_108_34, s_108_35, s_108_36, yO_0, yO_7, g1, ne_eq, not_true_eq_false, if_false, xbump_z hz, xbump_emb, Gk_v, Gk_n, xcat_nil, xcat_i, xcat_r, xcat_l, xcat_d, Nat.zero_le, Nat.reduceAdd, Nat.reduceLeDiff, true_and, and_true, ykl_i, ykl_r, ykl_n, ykl_l]
  · intro h3 Q
    rw [h3] at g1
    show G (d + 2) 108 0 [some (.ref 0), some (.int f), some (.int q), some (.int r), some (.int g), some (.int b), none] [] (yemb t) Q ↔ _
    simp only [s_108_0, s_108_1, s_108_2, s_108_3, s_108_4, s_108_5, s_108_6, s_108_7, s_108_8, s_108_9, s_108_10, s_108_11, s_108_12, s_108_13, s_108_13i, s_108_16, s_108_17, s_108_18, s_108_19, s_108_19i, s_108_22, s_108_23, s_108_24, s_108_25, s_108_26, s_108_27, s_108_28, s_108_29, s_108_30, s_108_31, s_108_32, s_108_33, s_108_34, s_108_35, s_108_36, yO_0, yO_7, g1, show ¬ (2 : Int32) = 3 from by decide, show ¬ (2 : Int32) = 0 from by decide, ne_eq, not_false_eq_true, if_true, if_false, xbump_z hz, xbump_emb, Gk_v, Gk_n, xcat_nil, xcat_i, xcat_r, xcat_l, xcat_d, Nat.zero_le, Nat.reduceAdd, Nat.reduceLeDiff, true_and, and_true, ykl_i, ykl_r, ykl_n, ykl_l]
theorem yff_3 {f q r g b : Int32} : yff D f q r g b = 3 ∨ (yff D f q r g b = 2 ∨ (yisp D f = true ∧ (yisp D q = true ∧ (¬ q < f ∧ ycols r g b = true)))) := by
  unfold yff
  cases hf : yisp D f
  · left; simp
  · cases hq : yisp D q
    · left; simp
    · by_cases hlt : q < f
      · right; left; simp [hlt]
      · cases hc : ycols r g b
        · right; left; simp
        · right; right; exact ⟨rfl, rfl, hlt, rfl⟩
/- limit -/
theorem yisf_of {g : Int32} (h1 : D.f ≤ 6) (h : yisf D g = true) : ∃ q, q < D.f ∧ g = yI q := by
  have h' := of_decide_eq_true h
  obtain ⟨q, hq, rfl⟩ := yI_of (Int32.not_lt.mpr h'.1)
  exact ⟨q, (yI_lt hq (by omega)).mp h'.2, rfl⟩
theorem yDok_fl {g l : Nat} (h : yDok D) (hl : l < 10000) : yDok (D.sfl (upd D.fl g (yI l))) := by
  refine ⟨h.n1, h.n40, h.f1, h.f6, h.fp0, h.fpm, h.fpn, h.ogm, ?_, h.2.2.2.2.2.2.2.2.2⟩
  intro q hq
  show ∃ m, m < 10000 ∧ upd D.fl g (yI l) q = yI m
  by_cases e : q = g
  · rw [e, yupd_same]
    exact ⟨l, hl, rfl⟩
  · rw [yupd_ne e]
    exact h.fll q hq
theorem q_114 (C : yCI t D k E s0 s1 n B eo en) {g l : Nat} (hg : g < D.f) (hc : yisf D (yI g) = true) (hl : l < 10000) : ∃ u, Ra (d + 2) 114 [.ref 0, .int (yI g), .int (yI l)] (yemb t) (.inl (some (.int (D.fl g)))) (yemb u) ∧ (yCI u (D.sfl (upd D.fl g (yI l))) (min 8 (k + 1)) (ypush D E) s0 s1 n B eo en ∧ yFr (fun a => a < 160) t u) := by
  have hf6 := C.1.ok.f6
  obtain ⟨u1, h1, C1, F1⟩ := q_6 (d := d) C
  have W2 : yW (u1.s1 (7 + 9) g (yI l)) 7 (D.sfl (upd D.fl g (yI l))) := ⟨yDok_fl C.1.ok hl, yV_sfl C1.1.v⟩
  have g1 := fun Q' => m_33' (d := d + 1) C.1 (j := yI g) Q'
  have c1 : ¬ yI l < 0 := yI_nneg (by omega)
  have c2 : yI l ≤ 9999 := (yI_le (m := 9999) (by omega) (by decide)).mpr (by omega)
  have c3 : yix (yI g) 6 := yix_I (by omega) (by omega)
  have c4 : (yI g).toNatClampNeg = g := yI_clamp (by omega)
  have c5 : u1.A 16 g = D.fl g := C1.1.fl g hg
  refine ⟨u1.s1 (7 + 9) g (yI l), fun Q => ?_, yCI_D C1 (yFr_s1 (P := fun a => a = 16) rfl) (fun a h => by omega) W2, F1.trans (yFr_s1 (P := fun a => a = 16) rfl) (fun a h => by omega)⟩
  show G (d + 2) 114 0 [some (.ref 0), some (.int (yI g)), some (.int (yI l)), none] [] (yemb t) Q ↔ _
  simp only [s_114_0, s_114_1, s_114_2, s_114_3, s_114_4, s_114_5, s_114_6, s_114_6i, s_114_9, s_114_10, s_114_11, s_114_12, s_114_13, s_114_14, s_114_15, s_114_15i, s_114_18, s_114_19, s_114_20, s_114_21, s_114_22, s_114_23, s_114_24, s_114_25, s_114_26, s_114_27, s_114_28, s_114_29, s_114_30, s_114_31, s_114_32, s_114_33, s_114_34, s_114_35, s_114_36, yO_0, yO_7, yO_38, yA_16, yn_16, g1, hc, ifbn, if_true, if_false, c1, c2, c3, c4, c5, h1, Gk_v, Gk_n, xcat_nil, xcat_i, xcat_r, xcat_l, xcat_d, Nat.zero_le, Nat.reduceAdd, Nat.reduceLeDiff, true_and, and_true, ykl_i, ykl_r, ykl_n, ykl_l]
theorem q_114t (C : yCI t D k E s0 s1 n B eo en) {g l : Int32} (hz : t.z.1.1 < 900000) : (yisf D g = false → Ra (d + 2) 114 [.ref 0, .int g, .int l] (yemb t) (.inr 1) (yemb t.bp)) ∧ (yisf D g = true → yin0 9999 l = false → Ra (d + 2) 114 [.ref 0, .int g, .int l] (yemb t) (.inr 0) (yemb t.bp)) := by
  have g1 := fun Q' => m_33' (d := d + 1) C.1 (j := g) Q'
  constructor
  · intro hc Q
    rw [hc] at g1
    show G (d + 2) 114 0 [some (.ref 0), some (.int g), some (.int l), none] [] (yemb t) Q ↔ _
    simp only [s_114_0, s_114_1, s_114_2, s_114_3, s_114_4, s_114_5, s_114_6, s_114_6i, s_114_9, s_114_10, s_114_11, s_114_12, s_114_13, s_114_14, s_114_15, s_114_15i, s_114_18, s_114_19, s_114_20, s_114_21, s_114_22, s_114_23, s_114_24, s_114_25, s_114_26, s_114_27, s_114_28, s_114_29, s_114_30, s_114_31, s_114_32, s_114_33, s_114_34, s_114_35, s_114_36, yO_0, yO_7, g1, ifbn, Bool.false_eq_true, if_false, xbump_z hz, xbump_emb, Gk_v, Gk_n, xcat_nil, xcat_i, xcat_r, xcat_l, xcat_d, Nat.zero_le, Nat.reduceAdd, Nat.reduceLeDiff, true_and, and_true, ykl_i, ykl_r, ykl_n, ykl_l]
  · intro hc hl Q
    rw [hc] at g1
    show G (d + 2) 114 0 [some (.ref 0), some (.int g), some (.int l), none] [] (yemb t) Q ↔ _
    by_cases c1 : l < 0
    · simp only [s_114_0, s_114_1, s_114_2, s_114_3, s_114_4, s_114_5, s_114_6, s_114_6i, s_114_9, s_114_10, s_114_11, s_114_12, s_114_13, s_114_14, s_114_15, s_114_15i, s_114_18, s_114_19, s_114_20, s_114_21, s_114_22, s_114_23, s_114_24, s_114_25, s_114_26, s_114_27, s_114_28, s_114_29, s_114_30, s_114_31, s_114_32, s_114_33, s_114_34, s_114_35, s_114_36, yO_0, yO_7, g1, ifbn, if_true, c1, xbump_z hz, xbump_emb, Gk_v, Gk_n, xcat_nil, xcat_i, xcat_r, xcat_l, xcat_d, Nat.zero_le, Nat.reduceAdd, Nat.reduceLeDiff, true_and, and_true, ykl_i, ykl_r, ykl_n, ykl_l]
    · have c2 : ¬ l ≤ 9999 := yrange_no hl c1
      simp only [s_114_0, s_114_1, s_114_2, s_114_3, s_114_4, s_114_5, s_114_6, s_114_6i, s_114_9, s_114_10, s_114_11, s_114_12, s_114_13, s_114_14, s_114_15, s_114_15i, s_114_18, s_114_19, s_114_20, s_114_21, s_114_22, s_114_23, s_114_24, s_114_25, s_114_26, s_114_27, s_114_28, s_114_29, s_114_30, s_114_31, s_114_32, s_114_33, s_114_34, s_114_35, s_114_36, yO_0, yO_7, g1, ifbn, if_true, if_false, c1, c2, xbump_z hz, xbump_emb, Gk_v, Gk_n, xcat_nil, xcat_i, xcat_r, xcat_l, xcat_d, Nat.zero_le, Nat.reduceAdd, Nat.reduceLeDiff, true_and, and_true, ykl_i, ykl_r, ykl_n, ykl_l]
end

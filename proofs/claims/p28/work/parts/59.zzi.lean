/-! ===== a script is done: the pure run, and the class ===== -/
abbrev yXs := Nat × (yD × Nat)
def yxc (T : yTb) (i : Nat) (X : yXs) : yXs := (ystop T X.2.1 X.2.2 i, if ystop T X.2.1 X.2.2 i = 0 then (ydo T X.2.1 i, X.2.2 + 1) else X.2)
def yxrep (f : yXs → yXs) : Nat → yXs → yXs
  | 0, X => X
  | k + 1, X => if (f X).1 = 0 then yxrep f k (f X) else f X
def yxS (W : Nat → Nat → yXs → yXs) (T : yTb) : Nat → Nat → Nat → yXs → yXs
  | 0, _, _, X => X
  | m + 1, lo, hi, X => if hi ≤ lo then X else
    if (if T.1 lo = 5 then yxrep (W (lo + 1) (T.2.2 lo)) (T.2.1 lo 0) X else yxc T lo X).1 = 0 then yxS W T m (T.2.2 lo) hi (if T.1 lo = 5 then yxrep (W (lo + 1) (T.2.2 lo)) (T.2.1 lo 0) X else yxc T lo X)
    else (if T.1 lo = 5 then yxrep (W (lo + 1) (T.2.2 lo)) (T.2.1 lo 0) X else yxc T lo X)
def yxK (T : yTb) : Nat → Nat → Nat → yXs → yXs
  | 0 => fun lo hi X => yxS (fun _ _ X => X) T hi lo hi X
  | k + 1 => fun lo hi X => yxS (yxK T k) T hi lo hi X
theorem yxrep_id {f : yXs → yXs} {X : yXs} (h : f X = X) : ∀ m, yxrep f m X = X := by
  intro m
  induction m with
  | zero => rfl
  | succ m ih =>
    rw [yxrep, h, ih]
    split <;> rfl
theorem yxS_id {W : Nat → Nat → yXs → yXs} {T : yTb} {X : yXs} {lo hi : Nat} (h : hi ≤ lo) : ∀ m, yxS W T m lo hi X = X := by
  intro m
  cases m with
  | zero => rfl
  | succ m => rw [yxS, if_pos h]
theorem yxK_id {T : yTb} {X : yXs} {lo : Nat} : ∀ k, yxK T k lo lo X = X := by
  intro k
  cases k with
  | zero => exact yxS_id (Nat.le_refl _) _
  | succ k => exact yxS_id (Nat.le_refl _) _
abbrev yQe (t : yT) (T : yTb) (cN : Nat) (X : yXs) : Prop := yPe t T cN X.2.1 X.2.2 ∧ (t.A 34 8 = yI X.1 ∧ (X.2.2 ≤ 200 ∧ X.1 ≤ 3))
abbrev yQm (t : yT) (T : yTb) (cN : Nat) (X : yXs) : Prop := yPm t T cN X.2.1 X.2.2 ∧ (t.A 160 8 = yI X.1 ∧ (X.2.2 ≤ 200 ∧ X.1 ≤ 3))
abbrev yXe (Dp dep : Nat) (T : yTb) (cN : Nat) (W : Nat → Nat → Prop) (f : Nat → Nat → yXs → yXs) : Prop := ∀ (t : yT) (lo hi : Nat) (X : yXs), hi ≤ cN → W lo hi → yQe t T cN X → X.1 = 0 → ∃ u, Ra Dp 17 [.ref 34, .int (yI lo), .int (yI hi), .int (yI dep)] (yemb t) (.inl (some (.int (yb (decide ((f lo hi X).1 = 0)))))) (yemb u) ∧ (yQe u T cN (f lo hi X) ∧ yKh t u)
abbrev yXm (Dp : Nat) (T : yTb) (cN : Nat) (W : Nat → Nat → Prop) (f : Nat → Nat → yXs → yXs) : Prop := ∀ (t : yT) (lo hi : Nat) (X : yXs), hi ≤ cN → W lo hi → yQm t T cN X → X.1 = 0 → ∃ u, Ra Dp 156 [.ref 160, .int (yI lo), .int (yI hi)] (yemb t) (.inl (some (.int (yb (decide ((f lo hi X).1 = 0)))))) (yemb u) ∧ (yQm u T cN (f lo hi X) ∧ yKg t u)
theorem yxc_200 {T : yTb} {i : Nat} {X : yXs} (h : X.2.2 ≤ 200) : (yxc T i X).2.2 ≤ 200 := by
  unfold yxc
  by_cases h0 : ystop T X.2.1 X.2.2 i = 0
  · rw [if_pos h0]
    have : ¬ X.2.2 = 200 := fun h' => by
      unfold ystop at h0
      rw [if_pos h'] at h0
      exact absurd h0 (by decide)
    show X.2.2 + 1 ≤ 200
    omega
  · rw [if_neg h0]
    exact h
theorem ywfS_lt {W : Nat → Nat → Prop} {T : yTb} {m lo hi : Nat} (H : ywfS W T m lo hi) (h : lo < hi) : (lo < T.2.2 lo ∧ T.2.2 lo ≤ hi) ∧ (ycok W T lo ∧ ∃ m', ywfS W T m' (T.2.2 lo) hi) := by
  cases m with
  | zero => exact absurd (show lo = hi from H) (by omega)
  | succ m =>
    rcases H with H | ⟨h1, h2, h3⟩
    · omega
    · exact ⟨h1, h2, m, h3⟩
theorem xc_nil : xcat [] ≤ 8 := Nat.le_of_ble_eq_true rfl
section
variable {d : Nat} {t : yT} {T : yTb} {cN i : Nat} {D : yD} {done dep : Nat}
theorem m_18 {X : yXs} (P : yQe t T cN X) (hi : i < cN) (hc : cN ≤ 60) (hK : T.1 i < 5) (hN : ∀ j, j < ynb (T.1 i) → T.2.1 i j < 10000) : ∃ u, Ra (d + 6) 18 [.ref 34, .int (yI i)] (yemb t) (.inl (some (.int (yb (decide ((yxc T i X).1 = 0)))))) (yemb u) ∧ (yQe u T cN (yxc T i X) ∧ yKh t u) := by
  have h200 := yxc_200 (T := T) (i := i) P.2.2.1
  have h3 : (yxc T i X).1 ≤ 3 := ystop_le
  by_cases h : ystop T X.2.1 X.2.2 i = 0
  · obtain ⟨u, hu, Pu, e8, Ku⟩ := m_18t (d := d) P.1 hi hc hK hN P.2.2.1 h
    have e : yxc T i X = (0, (ydo T X.2.1 i, X.2.2 + 1)) := by unfold yxc; rw [if_pos h, h]
    rw [e] at h200 h3 ⊢
    exact ⟨u, hu, ⟨Pu, e8, h200, h3⟩, Ku⟩
  · obtain ⟨u, hu, Pu, e8, Ku⟩ := m_18f (d := d) P.1 hi hc hK hN P.2.2.1 h
    have e : yxc T i X = (ystop T X.2.1 X.2.2 i, X.2) := by unfold yxc; rw [if_neg h]
    rw [e] at h200 h3 ⊢
    have e' : yb (decide (ystop T X.2.1 X.2.2 i = 0)) = 0 := by rw [decide_eq_false h]; rfl
    refine ⟨u, ?_, ⟨Pu, e8, h200, h3⟩, Ku⟩
    show Ra (d + 6) 18 [.ref 34, .int (yI i)] (yemb t) (.inl (some (.int (yb (decide (ystop T X.2.1 X.2.2 i = 0)))))) (yemb u)
    rw [e']
    exact hu
theorem l_17r {W : Nat → Nat → Prop} {f : Nat → Nat → yXs → yXs} (HB : yXe (d + 6) (dep + 1) T cN W f) (hi : i < cN) (hc : cN ≤ 60) (h20 : T.2.1 i 0 ≤ 20) (h5 : T.1 i = 5) (he : T.2.2 i ≤ cN) (hW : W (i + 1) (T.2.2 i)) {l1 l2 : Option Value} : ∀ m time (t : yT) (X : yXs), time + m = T.2.1 i 0 → yQe t T cN X → X.1 = 0 →
    ∃ u, ((yxrep (f (i + 1) (T.2.2 i)) m X).1 = 0 → ∃ l5, Gg (d + 7) 17 32 [some (.ref 34), l1, l2, some (.int (yI dep)), some (.int (yI i)), some (.int (yI time))] [] (yemb t) 57 [some (.ref 34), l1, l2, some (.int (yI dep)), some (.int (yI i)), l5] [] (yemb u))
      ∧ (((yxrep (f (i + 1) (T.2.2 i)) m X).1 ≠ 0 → Ga (d + 7) 17 32 [some (.ref 34), l1, l2, some (.int (yI dep)), some (.int (yI i)), some (.int (yI time))] [] (yemb t) (.inl (some (.int 0))) (yemb u)) ∧ (yQe u T cN (yxrep (f (i + 1) (T.2.2 i)) m X) ∧ yKh t u)) := by
  have e5 : (5 : Int32) * yI i = yI (5 * i) := yI_mul
  have i1 : yix (yI i) 60 := yix_I (by omega) (by omega)
  have c1 : (yI i).toNatClampNeg = i := yI_clamp (by omega)
  have a0 : yix (yI (5 * i)) 300 := yix_I (by omega) (by omega)
  have b0 : (yI (5 * i)).toNatClampNeg = 5 * i := yI_clamp (by omega)
  have e1 : yI i + 1 = yI (i + 1) := yI_add
  have ed : yI dep + 1 = yI (dep + 1) := yI_add
  intro m
  induction m with
  | zero =>
    intro time t X hm P h0
    have n0 : t.A 36 (5 * i) = yI (T.2.1 i 0) := (P.1.2.1 i (Nat.zero_le _) hi).2.1 0 (by rw [h5]; decide)
    have c : yI (T.2.1 i 0) ≤ yI time := (yI_le (by omega) (by omega)).mpr (by omega)
    refine ⟨t, fun _ => ⟨some (.int (yI time)), fun Q => ?_⟩, fun h => absurd h0 h, P, yKh_rfl⟩
    rw [s_17_32]
    simp only [s_17_0, s_17_1, s_17_2, s_17_3, s_17_4, s_17_5, s_17_6, s_17_8, s_17_9, s_17_10, s_17_11, s_17_12, s_17_13, s_17_14, s_17_15, s_17_16, s_17_17, s_17_18, s_17_19, s_17_20, s_17_21, s_17_22, s_17_23, s_17_24, s_17_25, s_17_26, s_17_27, s_17_28, s_17_29, s_17_30, s_17_31, s_17_33, s_17_34, s_17_35, s_17_36, s_17_37, s_17_38, s_17_39, s_17_40, s_17_41, s_17_42, s_17_43, s_17_44, s_17_45, s_17_46, s_17_47, s_17_48, s_17_49, s_17_50, s_17_51, s_17_52, s_17_53, s_17_54, s_17_55, s_17_56, s_17_58, s_17_59, s_17_60, s_17_61, s_17_62, s_17_63, s_17_64, s_17_65, s_17_66, s_17_67, s_17_68, yO_34, yA_36, yn_36, e5, a0, b0, n0, c, if_true, Gk_v, Gk_n, xcat_nil, xcat_i, xcat_r, xcat_l, xcat_d, Nat.zero_le, Nat.reduceAdd, Nat.reduceLeDiff, true_and, and_true, ykl_i, ykl_r, ykl_n, ykl_l]
  | succ m ih =>
    intro time t X hm P h0
    obtain ⟨g1, g2, g3⟩ := P.1.2.1 i (Nat.zero_le _) hi
    have n0 : t.A 36 (5 * i) = yI (T.2.1 i 0) := g2 0 (by rw [h5]; decide)
    have c : ¬ yI (T.2.1 i 0) ≤ yI time := fun h => absurd ((yI_le (by omega) (by omega)).mp h) (by omega)
    have et : yI time + 1 = yI (time + 1) := yI_add
    obtain ⟨u, hu, Pu, Ku⟩ := HB t (i + 1) (T.2.2 i) X he hW P h0
    rw [yxrep]
    by_cases hX : (f (i + 1) (T.2.2 i) X).1 = 0
    · rw [if_pos hX]
      rw [decide_eq_true hX] at hu
      obtain ⟨v, v1, v2, Pv, Kv⟩ := ih (time + 1) u _ (by omega) Pu hX
      have step : ∀ Q, G (d + 7) 17 32 [some (.ref 34), l1, l2, some (.int (yI dep)), some (.int (yI i)), some (.int (yI time))] [] (yemb t) Q ↔ G (d + 7) 17 32 [some (.ref 34), l1, l2, some (.int (yI dep)), some (.int (yI i)), some (.int (yI (time + 1)))] [] (yemb u) Q := by
        intro Q
        rw [s_17_32]
        simp only [s_17_0, s_17_1, s_17_2, s_17_3, s_17_4, s_17_5, s_17_6, s_17_8, s_17_9, s_17_10, s_17_11, s_17_12, s_17_13, s_17_14, s_17_15, s_17_16, s_17_17, s_17_18, s_17_19, s_17_20, s_17_21, s_17_22, s_17_23, s_17_24, s_17_25, s_17_26, s_17_27, s_17_28, s_17_29, s_17_30, s_17_31, s_17_33, s_17_34, s_17_35, s_17_36, s_17_37, s_17_38, s_17_39, s_17_40, s_17_41, s_17_42, s_17_43, s_17_44, s_17_45, s_17_46, s_17_47, s_17_48, s_17_49, s_17_50, s_17_51, s_17_52, s_17_53, s_17_54, s_17_55, s_17_56, s_17_58, s_17_59, s_17_60, s_17_61, s_17_62, s_17_63, s_17_64, s_17_65, s_17_66, s_17_67, s_17_68, yO_34, yA_36, yn_36, e5, a0, b0, n0, c, if_false, yA_37, yn_37, i1, c1, g3, e1, ed, hu, ifbn, if_true, et, Gk_v, Gk_n, xcat_nil, xcat_i, xcat_r, xcat_l, xcat_d, Nat.zero_le, Nat.reduceAdd, Nat.reduceLeDiff, true_and, and_true, ykl_i, ykl_r, ykl_n, ykl_l]
      exact ⟨v, fun h => by obtain ⟨l5, hl⟩ := v1 h; exact ⟨l5, fun Q => (step Q).trans (hl Q)⟩, fun h Q => (step Q).trans (v2 h Q), Pv, yKh_tr Ku Kv⟩
    · rw [if_neg hX]
      rw [decide_eq_false hX] at hu
      refine ⟨u, fun h => absurd h hX, fun _ Q => ?_, Pu, Ku⟩
      rw [s_17_32]
      simp only [s_17_0, s_17_1, s_17_2, s_17_3, s_17_4, s_17_5, s_17_6, s_17_8, s_17_9, s_17_10, s_17_11, s_17_12, s_17_13, s_17_14, s_17_15, s_17_16, s_17_17, s_17_18, s_17_19, s_17_20, s_17_21, s_17_22, s_17_23, s_17_24, s_17_25, s_17_26, s_17_27, s_17_28, s_17_29, s_17_30, s_17_31, s_17_33, s_17_34, s_17_35, s_17_36, s_17_37, s_17_38, s_17_39, s_17_40, s_17_41, s_17_42, s_17_43, s_17_44, s_17_45, s_17_46, s_17_47, s_17_48, s_17_49, s_17_50, s_17_51, s_17_52, s_17_53, s_17_54, s_17_55, s_17_56, s_17_58, s_17_59, s_17_60, s_17_61, s_17_62, s_17_63, s_17_64, s_17_65, s_17_66, s_17_67, s_17_68, yO_34, yA_36, yn_36, e5, a0, b0, n0, c, if_false, yA_37, yn_37, i1, c1, g3, e1, ed, hu, ifbn, Bool.false_eq_true, ybo_0, Gk_v, Gk_n, xcat_nil, xcat_i, xcat_r, xcat_l, xcat_d, Nat.zero_le, Nat.reduceAdd, Nat.reduceLeDiff, true_and, and_true, ykl_i, ykl_r, ykl_n, ykl_l]
theorem l_17 {W : Nat → Nat → Prop} {f : Nat → Nat → yXs → yXs} {hi : Nat} (HB : yXe (d + 6) (dep + 1) T cN W f) (hid : ∀ lo X, f lo lo X = X) (hh : hi ≤ cN) (hc : cN ≤ 60) {l1 : Option Value} : ∀ m lo (t : yT) (X : yXs) (l5 : Option Value), hi - lo ≤ m → (∃ m', ywfS W T m' lo hi) → yQe t T cN X → X.1 = 0 →
    ∃ u, Ga (d + 7) 17 7 [some (.ref 34), l1, some (.int (yI hi)), some (.int (yI dep)), some (.int (yI lo)), l5] [] (yemb t) (.inl (some (.int (yb (decide ((yxS f T m lo hi X).1 = 0)))))) (yemb u) ∧ (yQe u T cN (yxS f T m lo hi X) ∧ yKh t u) := by
  have fin : ∀ lo (t : yT) (X : yXs) (l5 : Option Value), hi ≤ lo → lo ≤ hi → X.1 = 0 → Ga (d + 7) 17 7 [some (.ref 34), l1, some (.int (yI hi)), some (.int (yI dep)), some (.int (yI lo)), l5] [] (yemb t) (.inl (some (.int (yb (decide (X.1 = 0)))))) (yemb t) := by
    intro lo t X l5 h h' h0 Q
    have c : yI hi ≤ yI lo := (yI_le (by omega) (by omega)).mpr h
    rw [decide_eq_true h0]
    rw [s_17_7]
    simp only [s_17_0, s_17_1, s_17_2, s_17_3, s_17_4, s_17_5, s_17_6, s_17_8, s_17_9, s_17_10, s_17_11, s_17_12, s_17_13, s_17_14, s_17_15, s_17_16, s_17_17, s_17_18, s_17_19, s_17_20, s_17_21, s_17_22, s_17_23, s_17_24, s_17_25, s_17_26, s_17_27, s_17_28, s_17_29, s_17_30, s_17_31, s_17_33, s_17_34, s_17_35, s_17_36, s_17_37, s_17_38, s_17_39, s_17_40, s_17_41, s_17_42, s_17_43, s_17_44, s_17_45, s_17_46, s_17_47, s_17_48, s_17_49, s_17_50, s_17_51, s_17_52, s_17_53, s_17_54, s_17_55, s_17_56, s_17_58, s_17_59, s_17_60, s_17_61, s_17_62, s_17_63, s_17_64, s_17_65, s_17_66, s_17_67, s_17_68, c, if_true, ybo_1, Gk_v, Gk_n, xcat_nil, xcat_i, xcat_r, xcat_l, xcat_d, Nat.zero_le, Nat.reduceAdd, Nat.reduceLeDiff, true_and, and_true, ykl_i, ykl_r, ykl_n, ykl_l]
    exact Iff.rfl
  intro m
  induction m with
  | zero =>
    intro lo t X l5 hm ⟨m', hw⟩ P h0
    exact ⟨t, fin lo t X l5 (by omega) (ywfS_le _ _ _ hw) h0, P, yKh_rfl⟩
  | succ m ih =>
    intro lo t X l5 hm ⟨m', hw⟩ P h0
    rw [yxS]
    by_cases hl : hi ≤ lo
    · rw [if_pos hl]
      exact ⟨t, fin lo t X l5 hl (ywfS_le _ _ _ hw) h0, P, yKh_rfl⟩
    · rw [if_neg hl]
      obtain ⟨⟨w1, w2⟩, w3, w4⟩ := ywfS_lt hw (by omega)
      obtain ⟨g1, g2, g3⟩ := P.1.2.1 lo (Nat.zero_le _) (by omega)
      have c0 : ¬ yI hi ≤ yI lo := fun h => absurd ((yI_le (by omega) (by omega)).mp h) (by omega)
      have i1 : yix (yI lo) 60 := yix_I (by omega) (by omega)
      have c1 : (yI lo).toNatClampNeg = lo := yI_clamp (by omega)
      have e1 : yI lo + 1 = yI (lo + 1) := yI_add
      have emax : (if yI (lo + 1) < yI (T.2.2 lo) then yI (T.2.2 lo) else yI (lo + 1)) = yI (T.2.2 lo) := by
        by_cases h : lo + 1 = T.2.2 lo
        · rw [h]; split <;> rfl
        · rw [if_pos ((yI_lt (by omega) (by omega)).mpr (by omega))]
      -- behind a command
      have next : ∀ (u : yT) (l5 : Option Value) Q, yQe u T cN (if T.1 lo = 5 then yxrep (f (lo + 1) (T.2.2 lo)) (T.2.1 lo 0) X else yxc T lo X) → (G (d + 7) 17 57 [some (.ref 34), l1, some (.int (yI hi)), some (.int (yI dep)), some (.int (yI lo)), l5] [] (yemb u) Q ↔ G (d + 7) 17 7 [some (.ref 34), l1, some (.int (yI hi)), some (.int (yI dep)), some (.int (yI (T.2.2 lo))), l5] [] (yemb u) Q) := by
        intro u l5 Q P
        have g3 := (P.1.2.1 lo (Nat.zero_le _) (by omega)).2.2
        rw [s_17_57]
        simp only [s_17_0, s_17_1, s_17_2, s_17_3, s_17_4, s_17_5, s_17_6, s_17_8, s_17_9, s_17_10, s_17_11, s_17_12, s_17_13, s_17_14, s_17_15, s_17_16, s_17_17, s_17_18, s_17_19, s_17_20, s_17_21, s_17_22, s_17_23, s_17_24, s_17_25, s_17_26, s_17_27, s_17_28, s_17_29, s_17_30, s_17_31, s_17_33, s_17_34, s_17_35, s_17_36, s_17_37, s_17_38, s_17_39, s_17_40, s_17_41, s_17_42, s_17_43, s_17_44, s_17_45, s_17_46, s_17_47, s_17_48, s_17_49, s_17_50, s_17_51, s_17_52, s_17_53, s_17_54, s_17_55, s_17_56, s_17_58, s_17_59, s_17_60, s_17_61, s_17_62, s_17_63, s_17_65, s_17_66, s_17_67, s_17_68, s_17_64 xc_nil, yO_34, yA_37, yn_37, i1, c1, e1, g3, emax, Gk_v, Gk_n, xcat_nil, xcat_i, xcat_r, xcat_l, xcat_d, Nat.zero_le, Nat.reduceAdd, Nat.reduceLeDiff, true_and, and_true, ykl_i, ykl_r, ykl_n, ykl_l]
      -- the command itself
      suffices S : ∃ u, ((if T.1 lo = 5 then yxrep (f (lo + 1) (T.2.2 lo)) (T.2.1 lo 0) X else yxc T lo X).1 = 0 → ∃ l5', Gg (d + 7) 17 7 [some (.ref 34), l1, some (.int (yI hi)), some (.int (yI dep)), some (.int (yI lo)), l5] [] (yemb t) 57 [some (.ref 34), l1, some (.int (yI hi)), some (.int (yI dep)), some (.int (yI lo)), l5'] [] (yemb u))
          ∧ (((if T.1 lo = 5 then yxrep (f (lo + 1) (T.2.2 lo)) (T.2.1 lo 0) X else yxc T lo X).1 ≠ 0 → Ga (d + 7) 17 7 [some (.ref 34), l1, some (.int (yI hi)), some (.int (yI dep)), some (.int (yI lo)), l5] [] (yemb t) (.inl (some (.int 0))) (yemb u)) ∧ (yQe u T cN (if T.1 lo = 5 then yxrep (f (lo + 1) (T.2.2 lo)) (T.2.1 lo 0) X else yxc T lo X) ∧ yKh t u)) by
        obtain ⟨u, s1, s2, Pu, Ku⟩ := S
        generalize hX1 : (if T.1 lo = 5 then yxrep (f (lo + 1) (T.2.2 lo)) (T.2.1 lo 0) X else yxc T lo X) = X1 at *
        by_cases hX : X1.1 = 0
        · rw [if_pos hX]
          obtain ⟨l5', hl'⟩ := s1 hX
          obtain ⟨v, hv, Pv, Kv⟩ := ih (T.2.2 lo) u X1 l5' (by omega) w4 Pu hX
          exact ⟨v, fun Q => (hl' Q).trans ((next u l5' Q Pu).trans (hv Q)), Pv, yKh_tr Ku Kv⟩
        · rw [if_neg hX, decide_eq_false hX]
          exact ⟨u, s2 hX, Pu, Ku⟩
      rcases w3 with ⟨k5, ke, kN⟩ | ⟨k5, ⟨kn1, kn2⟩, kW⟩
      · have h5 : ¬ T.1 lo = 5 := by omega
        have c5 : ¬ yI (T.1 lo) = 5 := fun h => h5 ((yI_inj (m := 5) (by omega) (by decide)).mp h)
        rw [if_neg h5]
        obtain ⟨u, hu, Pu, Ku⟩ := m_18 (d := d) P (show lo < cN by omega) hc k5 kN
        refine ⟨u, fun h => ⟨l5, fun Q => ?_⟩, fun h Q => ?_, Pu, Ku⟩
        · rw [decide_eq_true h] at hu
          rw [s_17_7]
          simp only [s_17_0, s_17_1, s_17_2, s_17_3, s_17_4, s_17_5, s_17_6, s_17_8, s_17_9, s_17_10, s_17_11, s_17_12, s_17_13, s_17_14, s_17_15, s_17_16, s_17_17, s_17_18, s_17_19, s_17_20, s_17_21, s_17_22, s_17_23, s_17_24, s_17_25, s_17_26, s_17_27, s_17_28, s_17_29, s_17_30, s_17_31, s_17_33, s_17_34, s_17_35, s_17_36, s_17_37, s_17_38, s_17_39, s_17_40, s_17_41, s_17_42, s_17_43, s_17_44, s_17_45, s_17_46, s_17_47, s_17_48, s_17_49, s_17_50, s_17_51, s_17_52, s_17_53, s_17_54, s_17_55, s_17_56, s_17_58, s_17_59, s_17_60, s_17_61, s_17_62, s_17_63, s_17_64, s_17_65, s_17_66, s_17_67, s_17_68, c0, if_false, yO_34, yA_35, yn_35, i1, c1, g1, c5, hu, ifbn, if_true, Gk_v, Gk_n, xcat_nil, xcat_i, xcat_r, xcat_l, xcat_d, Nat.zero_le, Nat.reduceAdd, Nat.reduceLeDiff, true_and, and_true, ykl_i, ykl_r, ykl_n, ykl_l]
        · rw [decide_eq_false h] at hu
          rw [s_17_7]
          simp only [s_17_0, s_17_1, s_17_2, s_17_3, s_17_4, s_17_5, s_17_6, s_17_8, s_17_9, s_17_10, s_17_11, s_17_12, s_17_13, s_17_14, s_17_15, s_17_16, s_17_17, s_17_18, s_17_19, s_17_20, s_17_21, s_17_22, s_17_23, s_17_24, s_17_25, s_17_26, s_17_27, s_17_28, s_17_29, s_17_30, s_17_31, s_17_33, s_17_34, s_17_35, s_17_36, s_17_37, s_17_38, s_17_39, s_17_40, s_17_41, s_17_42, s_17_43, s_17_44, s_17_45, s_17_46, s_17_47, s_17_48, s_17_49, s_17_50, s_17_51, s_17_52, s_17_53, s_17_54, s_17_55, s_17_56, s_17_58, s_17_59, s_17_60, s_17_61, s_17_62, s_17_63, s_17_64, s_17_65, s_17_66, s_17_67, s_17_68, c0, if_false, yO_34, yA_35, yn_35, i1, c1, g1, c5, hu, ifbn, Bool.false_eq_true, ybo_0, Gk_v, Gk_n, xcat_nil, xcat_i, xcat_r, xcat_l, xcat_d, Nat.zero_le, Nat.reduceAdd, Nat.reduceLeDiff, true_and, and_true, ykl_i, ykl_r, ykl_n, ykl_l]
      · rw [if_pos k5]
        have c5 : t.A 35 lo = 5 := by rw [g1, k5]; rfl
        by_cases he : T.2.2 lo = lo + 1
        · have hx : yxrep (f (lo + 1) (T.2.2 lo)) (T.2.1 lo 0) X = X := yxrep_id (by rw [he]; exact hid _ _) _
          rw [hx]
          have cl : yI (T.2.2 lo) ≤ yI (lo + 1) := (yI_le (by omega) (by omega)).mpr (by omega)
          refine ⟨t, fun _ => ⟨l5, fun Q => ?_⟩, fun h => absurd h0 h, P, yKh_rfl⟩
          rw [s_17_7]
          simp only [s_17_0, s_17_1, s_17_2, s_17_3, s_17_4, s_17_5, s_17_6, s_17_8, s_17_9, s_17_10, s_17_11, s_17_12, s_17_13, s_17_14, s_17_15, s_17_16, s_17_17, s_17_18, s_17_19, s_17_20, s_17_21, s_17_22, s_17_23, s_17_24, s_17_25, s_17_26, s_17_27, s_17_28, s_17_29, s_17_30, s_17_31, s_17_33, s_17_34, s_17_35, s_17_36, s_17_37, s_17_38, s_17_39, s_17_40, s_17_41, s_17_42, s_17_43, s_17_44, s_17_45, s_17_46, s_17_47, s_17_48, s_17_49, s_17_50, s_17_51, s_17_52, s_17_53, s_17_54, s_17_55, s_17_56, s_17_58, s_17_59, s_17_60, s_17_61, s_17_62, s_17_63, s_17_64, s_17_65, s_17_66, s_17_67, s_17_68, c0, if_false, yO_34, yA_35, yn_35, i1, c1, c5, if_true, yA_37, yn_37, g3, e1, cl, Gk_v, Gk_n, xcat_nil, xcat_i, xcat_r, xcat_l, xcat_d, Nat.zero_le, Nat.reduceAdd, Nat.reduceLeDiff, true_and, and_true, ykl_i, ykl_r, ykl_n, ykl_l]
        · have cl : ¬ yI (T.2.2 lo) ≤ yI (lo + 1) := fun h => absurd ((yI_le (by omega) (by omega)).mp h) (by omega)
          obtain ⟨u, u1, u2, Pu, Ku⟩ := l_17r (l1 := l1) (l2 := some (.int (yI hi))) HB (show lo < cN by omega) hc kn2 k5 (by omega) kW (T.2.1 lo 0) 0 t X (by omega) P h0
          have step : ∀ Q, G (d + 7) 17 7 [some (.ref 34), l1, some (.int (yI hi)), some (.int (yI dep)), some (.int (yI lo)), l5] [] (yemb t) Q ↔ G (d + 7) 17 32 [some (.ref 34), l1, some (.int (yI hi)), some (.int (yI dep)), some (.int (yI lo)), some (.int (yI 0))] [] (yemb t) Q := by
            intro Q
            rw [s_17_7]
            simp only [s_17_0, s_17_1, s_17_2, s_17_3, s_17_4, s_17_5, s_17_6, s_17_8, s_17_9, s_17_10, s_17_11, s_17_12, s_17_13, s_17_14, s_17_15, s_17_16, s_17_17, s_17_18, s_17_19, s_17_20, s_17_21, s_17_22, s_17_23, s_17_24, s_17_25, s_17_26, s_17_27, s_17_28, s_17_29, s_17_30, s_17_31, s_17_33, s_17_34, s_17_35, s_17_36, s_17_37, s_17_38, s_17_39, s_17_40, s_17_41, s_17_42, s_17_43, s_17_44, s_17_45, s_17_46, s_17_47, s_17_48, s_17_49, s_17_50, s_17_51, s_17_52, s_17_53, s_17_54, s_17_55, s_17_56, s_17_58, s_17_59, s_17_60, s_17_61, s_17_62, s_17_63, s_17_64, s_17_65, s_17_66, s_17_67, s_17_68, c0, if_false, yO_34, yA_35, yn_35, i1, c1, c5, if_true, yA_37, yn_37, g3, e1, cl, Gk_v, Gk_n, xcat_nil, xcat_i, xcat_r, xcat_l, xcat_d, Nat.zero_le, Nat.reduceAdd, Nat.reduceLeDiff, true_and, and_true, ykl_i, ykl_r, ykl_n, ykl_l]
            exact Iff.rfl
          exact ⟨u, fun h => by obtain ⟨l5', hl'⟩ := u1 h; exact ⟨l5', fun Q => (step Q).trans (hl' Q)⟩, fun h Q => (step Q).trans (u2 h Q), Pu, Ku⟩
theorem m_17K (hc : cN ≤ 60) : ∀ k, k ≤ 3 → yXe (d + 7 + k) (3 - k) T cN (ywfK T k) (yxK T k) := by
  intro k
  induction k with
  | zero =>
    intro _ t lo hi X hh hw P h0
    have HB : yXe (d + 6) (3 + 1) T cN (fun _ _ => False) (fun _ _ X => X) := fun _ _ _ _ _ h => h.elim
    obtain ⟨u, hu, Pu, Ku⟩ := l_17 (d := d) (l1 := some (.int (yI lo))) HB (fun _ _ => rfl) hh hc hi lo t X none (by omega) hw P h0
    refine ⟨u, fun Q => ?_, Pu, Ku⟩
    show G (d + 7) 17 0 [some (.ref 34), some (.int (yI lo)), some (.int (yI hi)), some (.int 3), none, none] [] (yemb t) Q ↔ _
    refine Iff.trans ?_ (hu Q)
    have c : (3 : Int32) ≤ 3 := by decide
    simp only [s_17_0, s_17_1, s_17_2, s_17_3, s_17_4, s_17_5, s_17_6, s_17_8, s_17_9, s_17_10, s_17_11, s_17_12, s_17_13, s_17_14, s_17_15, s_17_16, s_17_17, s_17_18, s_17_19, s_17_20, s_17_21, s_17_22, s_17_23, s_17_24, s_17_25, s_17_26, s_17_27, s_17_28, s_17_29, s_17_30, s_17_31, s_17_33, s_17_34, s_17_35, s_17_36, s_17_37, s_17_38, s_17_39, s_17_40, s_17_41, s_17_42, s_17_43, s_17_44, s_17_45, s_17_46, s_17_47, s_17_48, s_17_49, s_17_50, s_17_51, s_17_52, s_17_53, s_17_54, s_17_55, s_17_56, s_17_58, s_17_59, s_17_60, s_17_61, s_17_62, s_17_63, s_17_64, s_17_65, s_17_66, s_17_67, s_17_68, c, if_true, Gk_v, Gk_n, xcat_nil, xcat_i, xcat_r, xcat_l, xcat_d, Nat.zero_le, Nat.reduceAdd, Nat.reduceLeDiff, true_and, and_true, ykl_i, ykl_r, ykl_n, ykl_l]
    exact Iff.rfl
  | succ k ih =>
    intro hk t lo hi X hh hw P h0
    have HB : yXe (d + 1 + k + 6) (3 - (k + 1) + 1) T cN (ywfK T k) (yxK T k) := by
      rw [show d + 1 + k + 6 = d + 7 + k by omega, show 3 - (k + 1) + 1 = 3 - k by omega]
      exact ih (by omega)
    obtain ⟨u, hu, Pu, Ku⟩ := l_17 (d := d + 1 + k) (l1 := some (.int (yI lo))) HB (fun _ _ => yxK_id k) hh hc hi lo t X none (by omega) hw P h0
    refine ⟨u, fun Q => ?_, Pu, Ku⟩
    show G (d + 7 + (k + 1)) 17 0 [some (.ref 34), some (.int (yI lo)), some (.int (yI hi)), some (.int (yI (3 - (k + 1)))), none, none] [] (yemb t) Q ↔ _
    rw [show d + 7 + (k + 1) = d + 1 + k + 7 by omega]
    refine Iff.trans ?_ (hu Q)
    have c : yI (3 - (k + 1)) ≤ 3 := (yI_le (m := 3) (by omega) (by decide)).mpr (by omega)
    simp only [s_17_0, s_17_1, s_17_2, s_17_3, s_17_4, s_17_5, s_17_6, s_17_8, s_17_9, s_17_10, s_17_11, s_17_12, s_17_13, s_17_14, s_17_15, s_17_16, s_17_17, s_17_18, s_17_19, s_17_20, s_17_21, s_17_22, s_17_23, s_17_24, s_17_25, s_17_26, s_17_27, s_17_28, s_17_29, s_17_30, s_17_31, s_17_33, s_17_34, s_17_35, s_17_36, s_17_37, s_17_38, s_17_39, s_17_40, s_17_41, s_17_42, s_17_43, s_17_44, s_17_45, s_17_46, s_17_47, s_17_48, s_17_49, s_17_50, s_17_51, s_17_52, s_17_53, s_17_54, s_17_55, s_17_56, s_17_58, s_17_59, s_17_60, s_17_61, s_17_62, s_17_63, s_17_64, s_17_65, s_17_66, s_17_67, s_17_68, c, if_true, Gk_v, Gk_n, xcat_nil, xcat_i, xcat_r, xcat_l, xcat_d, Nat.zero_le, Nat.reduceAdd, Nat.reduceLeDiff, true_and, and_true, ykl_i, ykl_r, ykl_n, ykl_l]
end

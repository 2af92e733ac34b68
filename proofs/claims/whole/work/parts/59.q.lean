/-! ===== words read by both sides ===== -/
set_option maxRecDepth 30000 in
theorem ysb_neg : ∀ b, b < 256 → 128 ≤ b → ysb b < 0 := by decide
theorem ysb_eq {b c : Nat} (hb : b < 256) (hc : c < 128) : ysb b = yI c ↔ b = c := by
  by_cases h : b < 128
  · rw [ysb_lo b h, yI_inj (by omega) (by omega)]
  · have h1 := ysb_neg b hb (by omega)
    constructor
    · intro h2
      rw [h2] at h1
      exact absurd h1 (yI_nneg (by omega))
    · intro h2
      omega
theorem ybt_le {n : Nat} {B : Nat → Nat} {q : Nat} (Y : ∀ i, i < n → B i < 256) : decide ((97 : Int32) ≤ ybt n B q ∧ ybt n B q ≤ 122) = (decide (q < n) && yle (B q)) := by
  unfold ybt
  by_cases h : q < n
  · have := Y q h
    rw [if_pos h, decide_eq_true h, Bool.true_and]
    exact yI_in (a := 97) (c := 122) (by decide) (by omega) (by decide)
  · rw [if_neg h, decide_eq_false h]
    rfl
def yeqw (B : Nat → Nat) (q i : Nat) : Nat → Nat → Bool
  | 0, _ => true
  | m + 1, k => if B (q + k) = ywc i k then yeqw B q i m (k + 1) else false
theorem yeqw_all {B : Nat → Nat} {q i : Nat} : ∀ m k, yeqw B q i m k = true ↔ ∀ j, k ≤ j → j < k + m → B (q + j) = ywc i j := by
  intro m
  induction m with
  | zero => intro k; exact ⟨fun _ j h1 h2 => by omega, fun _ => rfl⟩
  | succ m ih =>
    intro k
    rw [yeqw]
    split
    · rename_i hc
      rw [ih]
      constructor
      · intro g j h1 h2
        by_cases e : j = k
        · rw [e]; exact hc
        · exact g j (by omega) (by omega)
      · intro g j h1 h2
        exact g j (by omega) (by omega)
    · rename_i hc
      constructor
      · intro g; cases g
      · intro g; exact absurd (g k (Nat.le_refl _) (by omega)) hc
theorem yte_ge {n : Nat} {B : Nat → Nat} {q : Nat} : q ≤ yte n B q := by
  unfold yte
  have h1 := yw_le (P := ydg) (B := B) (n - q) q
  have h2 := yw_le (P := yle) (B := B) (n - q) q
  split
  · omega
  · split
    · omega
    · split <;> omega
theorem ytkind_le {n : Nat} {B : Nat → Nat} {q : Nat} : ytkind n B q ≤ 3 := by
  unfold ytkind
  split
  · decide
  · split
    · decide
    · split <;> decide
section
variable {d : Nat}
theorem gs_217 {i k j pc nn : Nat} {y : Int} {ls : xL} {st : List Value} {σ : xS} {Q : xR → xS → Prop} (hi : i < 14) (hf : ft k j = some (pc, .invokevirtual nn, [217, 1, 0, y])) : G (d + 1) k j ls (.ref (1000100 + i) :: st) σ Q ↔ xcat st ≤ 8 ∧ Cl d 217 [.ref (1000100 + i)] σ (Gk (d + 1) k j ls st Q) :=
  gs_call hf ((xinv_call (i := j) (n := y) (ls := ls) (kind := 0) (σ := σ) (by decide)).trans (xcall_s [.ref (1000100 + i)] hi rfl rfl (show (1 : Nat) ≤ 1 by decide) rfl))
theorem gs_218 {i k j pc nn : Nat} {y : Int} {ls : xL} {st : List Value} {σ : xS} {Q : xR → xS → Prop} {x : Int32} (hi : i < 14) (hf : ft k j = some (pc, .invokevirtual nn, [218, 2, 0, y])) : G (d + 1) k j ls (.int x :: .ref (1000100 + i) :: st) σ Q ↔ xcat st ≤ 8 ∧ Cl d 218 [.ref (1000100 + i), .int x] σ (Gk (d + 1) k j ls st Q) :=
  gs_call hf ((xinv_call (i := j) (n := y) (ls := ls) (kind := 0) (σ := σ) (by decide)).trans (xcall_s [.int x, .ref (1000100 + i)] hi rfl rfl (show (2 : Nat) ≤ 2 by decide) rfl))
variable {n : Nat} {B : Nat → Nat}
theorem l_135 {t : yT} (Y : yYt t n B) {q i : Nat} (hi : i < 14) (hq : q ≤ n) (h4 : t.A 160 4 = yI q) : ∀ m k, k + m = ywl i → Gg (d + 4) 135 10 [some (.ref 160), some (.ref (1000100 + i)), some (.int (yI k))] [] (yemb t) 26 [some (.ref 160), some (.ref (1000100 + i)), some (.int (yI (ymt n B q i m k)))] [] (yemb t) := by
  obtain ⟨⟨b1, b2⟩, b3⟩ := yw_ok i hi
  have h600 := Y.1
  intro m
  induction m with
  | zero =>
    intro k hk Q
    have h1 : yI (ywl i) ≤ yI k := (yI_le (by omega) (by omega)).mpr (by omega)
    rw [s_135_10]
    simp only [s_135_11, gs_217 hi f_135_12, m_217 hi, s_135_13, h1, if_true, Gk_v, Gk_n, xcat_nil, xcat_i, xcat_r, xcat_l, xcat_d, Nat.zero_le, Nat.reduceAdd, Nat.reduceLeDiff, true_and, and_true, ykl_i, ykl_r, ykl_n, ykl_l]
    rfl
  | succ m ih =>
    intro k hk Q
    have h1 : ¬ yI (ywl i) ≤ yI k := fun h => absurd ((yI_le (by omega) (by omega)).mp h) (by omega)
    have h2 : yI q + yI k = yI (q + k) := yI_add
    have h3 : yI k + 1 = yI (k + 1) := yI_add
    have g := m_130 (d := d + 3) Y (i := q + k) (by omega)
    have g18 := m_218 (d := d) (σ := yemb t) hi (show k < ywl i by omega)
    have hb := (b3 k (by omega)).1
    have hc := ybt_is (n := n) (B := B) (q := q + k) (yYt_b Y) (c := ywc i k) (by omega)
    rw [ymt, s_135_10]
    by_cases h : q + k < n ∧ B (q + k) = ywc i k
    · rw [if_pos h]
      rw [hc.mpr h] at g
      simp only [s_135_11, gs_217 hi f_135_12, gs_218 hi f_135_22, m_217 hi, s_135_0, s_135_1, s_135_2, s_135_3, s_135_4, s_135_5, s_135_6, s_135_7, s_135_7i, s_135_8, s_135_9, s_135_11, s_135_13, s_135_14, s_135_15, s_135_16, s_135_17, s_135_18, s_135_19, s_135_20, s_135_21, s_135_23, s_135_24, s_135_25, s_135_27, s_135_29, s_135_30, s_135_31, s_135_32, s_135_33, s_135_34, s_135_35, s_135_36, s_135_37, s_135_38, s_135_39, s_135_40, s_135_41, s_135_42, s_135_43, s_135_43i, s_135_44, s_135_45, s_135_46, s_135_47, s_135_48, s_135_49, h1, if_false, yO_160, h4, h2, g, g18, ne_eq, not_true_eq_false, h3, ih (k + 1) (by omega), Gk_v, Gk_n, xcat_nil, xcat_i, xcat_r, xcat_l, xcat_d, Nat.zero_le, Nat.reduceAdd, Nat.reduceLeDiff, true_and, and_true, ykl_i, ykl_r, ykl_n, ykl_l]
    · rw [if_neg h]
      have hne : ¬ ybt n B (q + k) = yI (ywc i k) := fun h' => h (hc.mp h')
      simp only [s_135_11, gs_217 hi f_135_12, gs_218 hi f_135_22, m_217 hi, s_135_0, s_135_1, s_135_2, s_135_3, s_135_4, s_135_5, s_135_6, s_135_7, s_135_7i, s_135_8, s_135_9, s_135_11, s_135_13, s_135_14, s_135_15, s_135_16, s_135_17, s_135_18, s_135_19, s_135_20, s_135_21, s_135_23, s_135_24, s_135_25, s_135_27, s_135_29, s_135_30, s_135_31, s_135_32, s_135_33, s_135_34, s_135_35, s_135_36, s_135_37, s_135_38, s_135_39, s_135_40, s_135_41, s_135_42, s_135_43, s_135_43i, s_135_44, s_135_45, s_135_46, s_135_47, s_135_48, s_135_49, h1, if_false, if_true, yO_160, h4, h2, g, g18, ne_eq, hne, not_false_eq_true, Gk_v, Gk_n, xcat_nil, xcat_i, xcat_r, xcat_l, xcat_d, Nat.zero_le, Nat.reduceAdd, Nat.reduceLeDiff, true_and, and_true, ykl_i, ykl_r, ykl_n, ykl_l]
theorem m_135n {t : yT} (h5 : ¬ t.A 160 5 = 0) {s : Nat} : Ra (d + 4) 135 [.ref 160, .ref s] (yemb t) (.inl (some (.int 0))) (yemb t) := by
  intro Q
  have g := m_132 (d := d + 3) (t := t)
  rw [decide_eq_false h5] at g
  show G (d + 4) 135 0 [some (.ref 160), some (.ref s), none] [] (yemb t) Q ↔ _
  simp only [s_135_0, s_135_1, s_135_2, s_135_3, s_135_4, s_135_5, s_135_6, s_135_7, s_135_7i, s_135_8, s_135_9, s_135_11, s_135_13, s_135_14, s_135_15, s_135_16, s_135_17, s_135_18, s_135_19, s_135_20, s_135_21, s_135_23, s_135_24, s_135_25, s_135_27, s_135_29, s_135_30, s_135_31, s_135_32, s_135_33, s_135_34, s_135_35, s_135_36, s_135_37, s_135_38, s_135_39, s_135_40, s_135_41, s_135_42, s_135_43, s_135_43i, s_135_44, s_135_45, s_135_46, s_135_47, s_135_48, s_135_49, yO_160, g, ifbn, Bool.false_eq_true, if_false, ybo_0, Gk_v, Gk_n, xcat_nil, xcat_i, xcat_r, xcat_l, xcat_d, Nat.zero_le, Nat.reduceAdd, Nat.reduceLeDiff, true_and, and_true, ykl_i, ykl_r, ykl_n, ykl_l]
theorem m_135 {t : yT} (Y : yYt t n B) {m i : Nat} (hi : i < 14) (hm : m ≤ n) (h4 : t.A 160 4 = yI m) (h5 : t.A 160 5 = 0) : ∃ u, Ra (d + 4) 135 [.ref 160, .ref (1000100 + i)] (yemb t) (.inl (some (.int (yb (yisw n B (ysk n B m) i))))) (yemb u) ∧ (u.A 160 4 = yI (if yisw n B (ysk n B m) i = true then ysk n B m + ywl i else ysk n B m) ∧ ((∀ j, j ≠ 4 → u.A 160 j = t.A 160 j) ∧ yFe t u)) := by
  obtain ⟨⟨b1, b2⟩, b3⟩ := yw_ok i hi
  obtain ⟨v, hv, v4, vj, Fv⟩ := m_131 (d := d + 2) Y hm h4
  have hq := ysk_le (n := n) (B := B) hm
  have h600 := Y.1
  have g := m_132 (d := d + 3) (t := t)
  rw [decide_eq_true h5] at g
  generalize ysk n B m = q at *
  have Yv : yYt v n B := yYt_fr Y (vj 3 (by decide)) Fv
  have gl := l_135 (d := d) Yv hi hq.2 v4 (ywl i) 0 (Nat.zero_add _)
  have hml := ymt_le (n := n) (B := B) (q := q) (i := i) (ywl i) 0
  have start : ∀ Q, G (d + 4) 135 0 [some (.ref 160), some (.ref (1000100 + i)), none] [] (yemb t) Q ↔ G (d + 4) 135 26 [some (.ref 160), some (.ref (1000100 + i)), some (.int (yI (ymt n B q i (ywl i) 0)))] [] (yemb v) Q := by
    intro Q
    have gl' := gl Q
    simp only [s_135_0, s_135_1 yO_160, s_135_2, s_135_5, s_135_6 yO_160, s_135_7i, s_135_8, s_135_9, g, ifbn, if_true, hv, Gk_v, Gk_n, xcat_nil, xcat_i, xcat_r, xcat_l, xcat_d, Nat.zero_le, Nat.reduceAdd, Nat.reduceLeDiff, true_and, and_true, ykl_i, ykl_r, ykl_n, ykl_l]
    exact gl'
  have hw : yisw n B q i = (decide (ymt n B q i (ywl i) 0 = ywl i) && !(decide (q + ywl i < n) && yle (B (q + ywl i)))) := rfl
  generalize hK : ymt n B q i (ywl i) 0 = K at *
  by_cases hk : K = ywl i
  · subst hk
    have h1 : ¬ yI (ywl i) < yI (ywl i) := Int32.lt_irrefl
    have h2 : yI q + yI (ywl i) = yI (q + ywl i) := yI_add
    have g130 := m_130 (d := d + 3) Yv (i := q + ywl i) (by omega)
    have gle := ybt_le (n := n) (B := B) (q := q + ywl i) (yYt_b Y)
    rw [decide_eq_true rfl, Bool.true_and] at hw
    cases hx : (decide (q + ywl i < n) && yle (B (q + ywl i)))
    · rw [hx] at hw gle
      have hw' : yisw n B q i = true := hw
      refine ⟨v.s1 160 4 (yI (q + ywl i)), fun Q => ?_, ?_, fun j hj => ?_, yFe_tr Fv yFe_s1⟩
      · show G (d + 4) 135 0 [some (.ref 160), some (.ref (1000100 + i)), none] [] (yemb t) Q ↔ _
        rw [start Q, hw', s_135_26]
        simp only [s_135_27, gs_217 hi f_135_28, m_217 hi, s_135_0, s_135_1, s_135_2, s_135_3, s_135_4, s_135_5, s_135_6, s_135_7, s_135_7i, s_135_8, s_135_9, s_135_11, s_135_13, s_135_14, s_135_15, s_135_16, s_135_17, s_135_18, s_135_19, s_135_20, s_135_21, s_135_23, s_135_24, s_135_25, s_135_27, s_135_29, s_135_30, s_135_31, s_135_32, s_135_33, s_135_34, s_135_35, s_135_36, s_135_37, s_135_38, s_135_39, s_135_40, s_135_41, s_135_42, s_135_43, s_135_43i, s_135_44, s_135_45, s_135_46, s_135_47, s_135_48, s_135_49, h1, if_false, if_true, yO_160, v4, h2, g130, m_125, gle, ifb, Bool.false_eq_true, ybo_1, yb, Gk_v, Gk_n, xcat_nil, xcat_i, xcat_r, xcat_l, xcat_d, Nat.zero_le, Nat.reduceAdd, Nat.reduceLeDiff, true_and, and_true, ykl_i, ykl_r, ykl_n, ykl_l]
      · rw [hw', if_pos rfl]; exact ys1_same
      · rw [ys1_upd, yupd_ne hj, vj j hj]
    · rw [hx] at hw gle
      have hw' : yisw n B q i = false := hw
      refine ⟨v, fun Q => ?_, ?_, vj, Fv⟩
      · show G (d + 4) 135 0 [some (.ref 160), some (.ref (1000100 + i)), none] [] (yemb t) Q ↔ _
        rw [start Q, hw', s_135_26]
        simp only [s_135_27, gs_217 hi f_135_28, m_217 hi, s_135_0, s_135_1, s_135_2, s_135_3, s_135_4, s_135_5, s_135_6, s_135_7, s_135_7i, s_135_8, s_135_9, s_135_11, s_135_13, s_135_14, s_135_15, s_135_16, s_135_17, s_135_18, s_135_19, s_135_20, s_135_21, s_135_23, s_135_24, s_135_25, s_135_27, s_135_29, s_135_30, s_135_31, s_135_32, s_135_33, s_135_34, s_135_35, s_135_36, s_135_37, s_135_38, s_135_39, s_135_40, s_135_41, s_135_42, s_135_43, s_135_43i, s_135_44, s_135_45, s_135_46, s_135_47, s_135_48, s_135_49, h1, if_false, if_true, yO_160, v4, h2, g130, m_125, gle, ifb, Bool.false_eq_true, ybo_0, Gk_v, Gk_n, xcat_nil, xcat_i, xcat_r, xcat_l, xcat_d, Nat.zero_le, Nat.reduceAdd, Nat.reduceLeDiff, true_and, and_true, ykl_i, ykl_r, ykl_n, ykl_l]
        exact Iff.rfl
      · rw [hw', if_neg (by decide)]; exact v4
  · have h1 : yI K < yI (ywl i) := (yI_lt (by omega) (by omega)).mpr (by omega)
    rw [decide_eq_false hk, Bool.false_and] at hw
    refine ⟨v, fun Q => ?_, ?_, vj, Fv⟩
    · show G (d + 4) 135 0 [some (.ref 160), some (.ref (1000100 + i)), none] [] (yemb t) Q ↔ _
      rw [start Q, hw, s_135_26]
      simp only [s_135_27, gs_217 hi f_135_28, m_217 hi, s_135_0, s_135_1, s_135_2, s_135_3, s_135_4, s_135_5, s_135_6, s_135_7, s_135_7i, s_135_8, s_135_9, s_135_11, s_135_13, s_135_14, s_135_15, s_135_16, s_135_17, s_135_18, s_135_19, s_135_20, s_135_21, s_135_23, s_135_24, s_135_25, s_135_27, s_135_29, s_135_30, s_135_31, s_135_32, s_135_33, s_135_34, s_135_35, s_135_36, s_135_37, s_135_38, s_135_39, s_135_40, s_135_41, s_135_42, s_135_43, s_135_43i, s_135_44, s_135_45, s_135_46, s_135_47, s_135_48, s_135_49, h1, if_true, ybo_0, yb, Bool.false_eq_true, if_false, Gk_v, Gk_n, xcat_nil, xcat_i, xcat_r, xcat_l, xcat_d, Nat.zero_le, Nat.reduceAdd, Nat.reduceLeDiff, true_and, and_true, ykl_i, ykl_r, ykl_n, ykl_l]
    · rw [hw, if_neg (by decide)]; exact v4
end

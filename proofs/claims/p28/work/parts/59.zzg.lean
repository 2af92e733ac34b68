/-! ===== one command is done, on both sides ===== -/
def yfault (T : yTb) (D : yD) (i : Nat) : Nat :=
  if T.1 i = 0 then (if D.n ≤ T.2.1 i 0 ∨ D.n ≤ T.2.1 i 1 then 3 else if T.2.1 i 1 < T.2.1 i 0 ∨ (255 < T.2.1 i 2 ∨ (255 < T.2.1 i 3 ∨ 255 < T.2.1 i 4)) then 2 else 0)
  else if T.1 i = 2 then (if 255 < T.2.1 i 0 then 2 else 0)
  else if T.1 i = 4 then (if D.n ≤ T.2.1 i 0 then 3 else 0) else 0
def ydo (T : yTb) (D : yD) (i : Nat) : yD :=
  if T.1 i = 0 then (ypt (yI (65536 * T.2.1 i 2 + 256 * T.2.1 i 3 + T.2.1 i 4)) (T.2.1 i 1 + 1 - T.2.1 i 0) (T.2.1 i 0) 0 D).2
  else if T.1 i = 1 then yturn D (T.2.1 i 0)
  else if T.1 i = 2 then D.slv (yI (T.2.1 i 0))
  else if T.1 i = 3 then yshowD D
  else D.sbw (ybs D.bw (T.2.1 i 0) true)
def ystop (T : yTb) (D : yD) (done i : Nat) : Nat := if done = 200 then 1 else yfault T D i
abbrev yPe (t : yT) (T : yTb) (cN : Nat) (D : yD) (done : Nat) : Prop := yW t 7 D ∧ (yGc t 0 cN T ∧ t.A 34 7 = yI done)
abbrev yPm (t : yT) (T : yTb) (cN : Nat) (D : yD) (done : Nat) : Prop := yM (t.A 162) D ∧ (yGm t 0 cN T ∧ t.A 160 24 = yI done)
abbrev yKh (t u : yT) : Prop := (∀ j, j ≠ 7 → j ≠ 8 → u.A 34 j = t.A 34 j) ∧ yFr (fun a => a = 34 ∨ (3 ≤ a ∧ a ≤ 17)) t u
abbrev yKg (t u : yT) : Prop := (∀ j, j ≠ 8 → j ≠ 24 → u.A 160 j = t.A 160 j) ∧ yFr (fun a => a = 160 ∨ (a = 162 ∨ (a = 180 ∨ a = 181))) t u
theorem yKh_tr {t u v : yT} (h : yKh t u) (h' : yKh u v) : yKh t v := ⟨fun j a b => by rw [h'.1 j a b, h.1 j a b], h.2.trans h'.2 (fun a h => h.elim id id)⟩
theorem yKg_tr {t u v : yT} (h : yKg t u) (h' : yKg u v) : yKg t v := ⟨fun j a b => by rw [h'.1 j a b, h.1 j a b], h.2.trans h'.2 (fun a h => h.elim id id)⟩
theorem yKh_rfl {t : yT} : yKh t t := ⟨fun _ _ _ => rfl, yFr.rfl'⟩
theorem yKg_rfl {t : yT} : yKg t t := ⟨fun _ _ _ => rfl, yFr.rfl'⟩
theorem yKh_f {t u : yT} {P : Nat → Prop} (F : yFr P t u) (hP : ∀ a, P a → 3 ≤ a ∧ a ≤ 17) : yKh t u := ⟨fun j _ _ => by rw [F.A (fun h => by have := hP 34 h; omega)], F.mono (fun a h => Or.inr (hP a h))⟩
theorem yKg_f {t u : yT} {P : Nat → Prop} (F : yFr P t u) (hP : ∀ a, P a → a = 162 ∨ (a = 180 ∨ a = 181)) : yKg t u := ⟨fun j _ _ => by rw [F.A (fun h => by have := hP 160 h; omega)], F.mono (fun a h => Or.inr (hP a h))⟩
theorem yKh_s {t : yT} {j : Nat} {v : Int32} (h : j = 7 ∨ j = 8) : yKh t (t.s1 34 j v) := ⟨fun i a b => by rw [ys1_upd, yupd_ne (by omega)], yFr_s1 (Or.inl rfl)⟩
theorem yKg_s {t : yT} {j : Nat} {v : Int32} (h : j = 8 ∨ j = 24) : yKg t (t.s1 160 j v) := ⟨fun i a b => by rw [ys1_upd, yupd_ne (by omega)], yFr_s1 (Or.inl rfl)⟩
theorem yGc_h {t u : yT} {lo hi : Nat} {T : yTb} (G : yGc t lo hi T) (F : yKh t u) : yGc u lo hi T := fun i h1 h2 => by
  obtain ⟨a, b, c⟩ := G i h1 h2
  exact ⟨by rw [F.2.A (by decide)]; exact a, fun j hj => by rw [F.2.A (by decide)]; exact b j hj, by rw [F.2.A (by decide)]; exact c⟩
theorem yGm_g {t u : yT} {lo hi : Nat} {T : yTb} (G : yGm t lo hi T) (F : yKg t u) : yGm u lo hi T := fun i h1 h2 => by
  obtain ⟨a, b, c⟩ := G i h1 h2
  exact ⟨by rw [F.2.A (by decide)]; exact a, fun j hj => by rw [F.2.A (by decide)]; exact b j hj, fun h => by rw [F.2.A (by decide)]; exact c h⟩
theorem yisp_nat {D : yD} {p : Nat} (h : D.n ≤ 40) (hp : p < 10000) : yisp D (yI p) = decide (p < D.n) := by
  unfold yisp
  congr 1
  exact propext ⟨fun h' => (yI_lt (by omega) (by omega)).mp h'.2, fun h' => ⟨Int32.not_lt.mp (yI_nneg (by omega)), (yI_lt (by omega) (by omega)).mpr h'⟩⟩
theorem ychan_nat {p : Nat} (hp : p < 10000) : ychan (yI p) = decide (p ≤ 255) := by
  unfold ychan
  congr 1
  exact propext ⟨fun h' => (yI_le (m := 255) (by omega) (by decide)).mp h'.2, fun h' => ⟨Int32.not_lt.mp (yI_nneg (by omega)), (yI_le (m := 255) (by omega) (by decide)).mpr h'⟩⟩
theorem ycols_nat {r g b : Nat} (hr : r < 10000) (hg : g < 10000) (hb : b < 10000) : ycols (yI r) (yI g) (yI b) = !decide (255 < r ∨ (255 < g ∨ 255 < b)) := by
  unfold ycols
  rw [ychan_nat hr, ychan_nat hg, ychan_nat hb]
  by_cases h1 : r ≤ 255
  · by_cases h2 : g ≤ 255
    · by_cases h3 : b ≤ 255
      · rw [decide_eq_true h1, decide_eq_true h2, decide_eq_true h3, decide_eq_false (by omega)]; rfl
      · rw [decide_eq_true h1, decide_eq_true h2, decide_eq_false h3, decide_eq_true (by omega)]; rfl
    · rw [decide_eq_true h1, decide_eq_false h2, decide_eq_true (p := 255 < r ∨ _) (by omega)]; rfl
  · rw [decide_eq_false h1, decide_eq_true (p := 255 < r ∨ _) (by omega)]; rfl
theorem yff_nat {D : yD} {f q r g b : Nat} (h : D.n ≤ 40) (hf : f < 10000) (hq : q < 10000) (hr : r < 10000) (hg : g < 10000) (hb : b < 10000) : yff D (yI f) (yI q) (yI r) (yI g) (yI b) = yI (if D.n ≤ f ∨ D.n ≤ q then 3 else if q < f ∨ (255 < r ∨ (255 < g ∨ 255 < b)) then 2 else 0) := by
  unfold yff
  rw [yisp_nat h hf, yisp_nat h hq, ycols_nat hr hg hb]
  by_cases h1 : D.n ≤ f ∨ D.n ≤ q
  · rw [if_pos h1]
    rcases h1 with h1 | h1
    · rw [decide_eq_false (show ¬ f < D.n by omega)]; rfl
    · rw [decide_eq_false (show ¬ q < D.n by omega), Bool.not_false, Bool.or_true]; rfl
  · rw [if_neg h1, decide_eq_true (show f < D.n by omega), decide_eq_true (show q < D.n by omega), Bool.not_true, Bool.or_false, if_neg (by decide)]
    have e : decide (yI q < yI f) = decide (q < f) := by
      congr 1
      exact propext (yI_lt (by omega) (by omega))
    rw [e, Bool.not_not]
    by_cases h2 : q < f ∨ (255 < r ∨ (255 < g ∨ 255 < b))
    · rw [if_pos h2]
      rcases h2 with h2 | h2
      · rw [decide_eq_true h2]; rfl
      · rw [decide_eq_true h2, Bool.or_true]; rfl
    · rw [if_neg h2, decide_eq_false (fun h => h2 (Or.inl h)), decide_eq_false (fun h => h2 (Or.inr h))]; rfl
section
variable {d : Nat} {t : yT} {T : yTb} {cN i : Nat} {D : yD} {done : Nat}
theorem ynb0 : ynb 0 = 5 := rfl
theorem ynb1 : ynb 1 = 1 := rfl
theorem ynb2 : ynb 2 = 1 := rfl
theorem ynb4 : ynb 4 = 1 := rfl
theorem m_19 (P : yPe t T cN D done) (hi : i < cN) (hc : cN ≤ 60) (hK : T.1 i < 5) (hN : ∀ j, j < ynb (T.1 i) → T.2.1 i j < 10000) : Ra (d + 2) 19 [.ref 34, .int (yI i)] (yemb t) (.inl (some (.int (yI (yfault T D i))))) (yemb t) := by
  intro Q
  obtain ⟨W, Gt, -⟩ := P
  have hn40 := W.ok.n40
  obtain ⟨g1, g2, -⟩ := Gt i (Nat.zero_le _) hi
  have e5 : (5 : Int32) * yI i = yI (5 * i) := yI_mul
  have i1 : yix (yI i) 60 := yix_I (by omega) (by omega)
  have c1 : (yI i).toNatClampNeg = i := yI_clamp (by omega)
  have a0 : yix (yI (5 * i)) 300 := yix_I (by omega) (by omega)
  have b0 : (yI (5 * i)).toNatClampNeg = 5 * i := yI_clamp (by omega)
  show G (d + 2) 19 0 [some (.ref 34), some (.int (yI i)), none] [] (yemb t) Q ↔ _
  unfold yfault
  rcases (by omega : T.1 i = 0 ∨ (T.1 i = 1 ∨ (T.1 i = 2 ∨ (T.1 i = 3 ∨ T.1 i = 4)))) with k | k | k | k | k
  · rw [k] at g1 g2 hN
    rw [if_pos k]
    have g1' : t.A 35 i = 0 := g1
    have n0 : t.A 36 (5 * i) = yI (T.2.1 i 0) := g2 0 (by decide)
    have n1 := g2 1 (by decide)
    have n2 := g2 2 (by decide)
    have n3 := g2 3 (by decide)
    have n4 := g2 4 (by decide)
    have e1 : yI (5 * i) + 1 = yI (5 * i + 1) := yI_add
    have e2 : yI (5 * i) + 2 = yI (5 * i + 2) := yI_add
    have e3 : yI (5 * i) + 3 = yI (5 * i + 3) := yI_add
    have e4 : yI (5 * i) + 4 = yI (5 * i + 4) := yI_add
    have a1 : yix (yI (5 * i + 1)) 300 := yix_I (by omega) (by omega)
    have b1 : (yI (5 * i + 1)).toNatClampNeg = 5 * i + 1 := yI_clamp (by omega)
    have a2 : yix (yI (5 * i + 2)) 300 := yix_I (by omega) (by omega)
    have b2 : (yI (5 * i + 2)).toNatClampNeg = 5 * i + 2 := yI_clamp (by omega)
    have a3 : yix (yI (5 * i + 3)) 300 := yix_I (by omega) (by omega)
    have b3 : (yI (5 * i + 3)).toNatClampNeg = 5 * i + 3 := yI_clamp (by omega)
    have a4 : yix (yI (5 * i + 4)) 300 := yix_I (by omega) (by omega)
    have b4 : (yI (5 * i + 4)).toNatClampNeg = 5 * i + 4 := yI_clamp (by omega)
    have g38 := m_38 (d := d) W (f := yI (T.2.1 i 0)) (q := yI (T.2.1 i 1)) (r := yI (T.2.1 i 2)) (g := yI (T.2.1 i 3)) (b := yI (T.2.1 i 4))
    rw [yff_nat hn40 (hN 0 (by decide)) (hN 1 (by decide)) (hN 2 (by decide)) (hN 3 (by decide)) (hN 4 (by decide))] at g38
    simp only [s_19_0, s_19_1, s_19_2, s_19_3, s_19_4, s_19_5, s_19_6, s_19_7, s_19_8_0, s_19_8_1, s_19_8_2, s_19_8_3, s_19_8_4, s_19_8_d, s_19_9, s_19_10, s_19_11, s_19_12, s_19_13, s_19_14, s_19_15, s_19_16, s_19_17, s_19_18, s_19_19, s_19_20, s_19_21, s_19_22, s_19_23, s_19_24, s_19_25, s_19_26, s_19_27, s_19_28, s_19_29, s_19_30, s_19_31, s_19_32, s_19_33, s_19_34, s_19_35, s_19_36, s_19_37, s_19_38, s_19_39, s_19_40, s_19_41, s_19_42, s_19_43, s_19_44, s_19_45, s_19_46, s_19_47, s_19_48, s_19_49, s_19_50, s_19_51, s_19_52, s_19_53, s_19_54, s_19_55, s_19_56, s_19_57, s_19_58, s_19_59, s_19_60, s_19_61, s_19_62, s_19_63, s_19_64, yO_34, yO_7, e5, yA_35, yn_35, i1, c1, g1', yA_36, yn_36, a0, b0, n0, e1, a1, b1, n1, e2, a2, b2, n2, e3, a3, b3, n3, e4, a4, b4, n4, g38, Gk_v, Gk_n, xcat_nil, xcat_i, xcat_r, xcat_l, xcat_d, Nat.zero_le, Nat.reduceAdd, Nat.reduceLeDiff, true_and, and_true, ykl_i, ykl_r, ykl_n, ykl_l]
  · rw [k] at g1
    have g1' : t.A 35 i = 1 := g1
    rw [if_neg (by omega), if_neg (by omega), if_neg (by omega)]
    simp only [s_19_0, s_19_1, s_19_2, s_19_3, s_19_4, s_19_5, s_19_6, s_19_7, s_19_8_0, s_19_8_1, s_19_8_2, s_19_8_3, s_19_8_4, s_19_8_d, s_19_9, s_19_10, s_19_11, s_19_12, s_19_13, s_19_14, s_19_15, s_19_16, s_19_17, s_19_18, s_19_19, s_19_20, s_19_21, s_19_22, s_19_23, s_19_24, s_19_25, s_19_26, s_19_27, s_19_28, s_19_29, s_19_30, s_19_31, s_19_32, s_19_33, s_19_34, s_19_35, s_19_36, s_19_37, s_19_38, s_19_39, s_19_40, s_19_41, s_19_42, s_19_43, s_19_44, s_19_45, s_19_46, s_19_47, s_19_48, s_19_49, s_19_50, s_19_51, s_19_52, s_19_53, s_19_54, s_19_55, s_19_56, s_19_57, s_19_58, s_19_59, s_19_60, s_19_61, s_19_62, s_19_63, s_19_64, yO_34, yO_7, e5, yA_35, yn_35, i1, c1, g1', Gk_v, Gk_n, xcat_nil, xcat_i, xcat_r, xcat_l, xcat_d, Nat.zero_le, Nat.reduceAdd, Nat.reduceLeDiff, true_and, and_true, ykl_i, ykl_r, ykl_n, ykl_l]
    exact Iff.rfl
  · rw [k] at g1 g2 hN
    rw [if_neg (by omega), if_pos k]
    have g1' : t.A 35 i = 2 := g1
    have n0 : t.A 36 (5 * i) = yI (T.2.1 i 0) := g2 0 (by decide)
    have h0 := hN 0 (by decide)
    have gch := ychan_nat h0
    by_cases hx : 255 < T.2.1 i 0
    · rw [decide_eq_false (by omega)] at gch
      rw [if_pos hx]
      simp only [s_19_0, s_19_1, s_19_2, s_19_3, s_19_4, s_19_5, s_19_6, s_19_7, s_19_8_0, s_19_8_1, s_19_8_2, s_19_8_3, s_19_8_4, s_19_8_d, s_19_9, s_19_10, s_19_11, s_19_12, s_19_13, s_19_14, s_19_15, s_19_16, s_19_17, s_19_18, s_19_19, s_19_20, s_19_21, s_19_22, s_19_23, s_19_24, s_19_25, s_19_26, s_19_27, s_19_28, s_19_29, s_19_30, s_19_31, s_19_32, s_19_33, s_19_34, s_19_35, s_19_36, s_19_37, s_19_38, s_19_39, s_19_40, s_19_41, s_19_42, s_19_43, s_19_44, s_19_45, s_19_46, s_19_47, s_19_48, s_19_49, s_19_50, s_19_51, s_19_52, s_19_53, s_19_54, s_19_55, s_19_56, s_19_57, s_19_58, s_19_59, s_19_60, s_19_61, s_19_62, s_19_63, s_19_64, yO_34, yO_7, e5, yA_35, yn_35, i1, c1, g1', yA_36, yn_36, a0, b0, n0, m_119, gch, ifb, Bool.false_eq_true, if_false, Gk_v, Gk_n, xcat_nil, xcat_i, xcat_r, xcat_l, xcat_d, Nat.zero_le, Nat.reduceAdd, Nat.reduceLeDiff, true_and, and_true, ykl_i, ykl_r, ykl_n, ykl_l]
      exact Iff.rfl
    · rw [decide_eq_true (by omega)] at gch
      rw [if_neg hx]
      simp only [s_19_0, s_19_1, s_19_2, s_19_3, s_19_4, s_19_5, s_19_6, s_19_7, s_19_8_0, s_19_8_1, s_19_8_2, s_19_8_3, s_19_8_4, s_19_8_d, s_19_9, s_19_10, s_19_11, s_19_12, s_19_13, s_19_14, s_19_15, s_19_16, s_19_17, s_19_18, s_19_19, s_19_20, s_19_21, s_19_22, s_19_23, s_19_24, s_19_25, s_19_26, s_19_27, s_19_28, s_19_29, s_19_30, s_19_31, s_19_32, s_19_33, s_19_34, s_19_35, s_19_36, s_19_37, s_19_38, s_19_39, s_19_40, s_19_41, s_19_42, s_19_43, s_19_44, s_19_45, s_19_46, s_19_47, s_19_48, s_19_49, s_19_50, s_19_51, s_19_52, s_19_53, s_19_54, s_19_55, s_19_56, s_19_57, s_19_58, s_19_59, s_19_60, s_19_61, s_19_62, s_19_63, s_19_64, yO_34, yO_7, e5, yA_35, yn_35, i1, c1, g1', yA_36, yn_36, a0, b0, n0, m_119, gch, ifb, if_true, Gk_v, Gk_n, xcat_nil, xcat_i, xcat_r, xcat_l, xcat_d, Nat.zero_le, Nat.reduceAdd, Nat.reduceLeDiff, true_and, and_true, ykl_i, ykl_r, ykl_n, ykl_l]
      exact Iff.rfl
  · rw [k] at g1
    have g1' : t.A 35 i = 3 := g1
    rw [if_neg (by omega), if_neg (by omega), if_neg (by omega)]
    simp only [s_19_0, s_19_1, s_19_2, s_19_3, s_19_4, s_19_5, s_19_6, s_19_7, s_19_8_0, s_19_8_1, s_19_8_2, s_19_8_3, s_19_8_4, s_19_8_d, s_19_9, s_19_10, s_19_11, s_19_12, s_19_13, s_19_14, s_19_15, s_19_16, s_19_17, s_19_18, s_19_19, s_19_20, s_19_21, s_19_22, s_19_23, s_19_24, s_19_25, s_19_26, s_19_27, s_19_28, s_19_29, s_19_30, s_19_31, s_19_32, s_19_33, s_19_34, s_19_35, s_19_36, s_19_37, s_19_38, s_19_39, s_19_40, s_19_41, s_19_42, s_19_43, s_19_44, s_19_45, s_19_46, s_19_47, s_19_48, s_19_49, s_19_50, s_19_51, s_19_52, s_19_53, s_19_54, s_19_55, s_19_56, s_19_57, s_19_58, s_19_59, s_19_60, s_19_61, s_19_62, s_19_63, s_19_64, yO_34, yO_7, e5, yA_35, yn_35, i1, c1, g1', Gk_v, Gk_n, xcat_nil, xcat_i, xcat_r, xcat_l, xcat_d, Nat.zero_le, Nat.reduceAdd, Nat.reduceLeDiff, true_and, and_true, ykl_i, ykl_r, ykl_n, ykl_l]
    exact Iff.rfl
  · rw [k] at g1 g2 hN
    rw [if_neg (by omega), if_neg (by omega), if_pos k]
    have g1' : t.A 35 i = 4 := g1
    have n0 : t.A 36 (5 * i) = yI (T.2.1 i 0) := g2 0 (by decide)
    have h0 := hN 0 (by decide)
    have gsp := yisp_nat hn40 h0
    have g32 := fun (j : Int32) => m_32' (d := d + 1) W (j := j)
    by_cases hx : D.n ≤ T.2.1 i 0
    · rw [decide_eq_false (by omega)] at gsp
      rw [if_pos hx]
      simp only [s_19_0, s_19_1, s_19_2, s_19_3, s_19_4, s_19_5, s_19_6, s_19_7, s_19_8_0, s_19_8_1, s_19_8_2, s_19_8_3, s_19_8_4, s_19_8_d, s_19_9, s_19_10, s_19_11, s_19_12, s_19_13, s_19_14, s_19_15, s_19_16, s_19_17, s_19_18, s_19_19, s_19_20, s_19_21, s_19_22, s_19_23, s_19_24, s_19_25, s_19_26, s_19_27, s_19_28, s_19_29, s_19_30, s_19_31, s_19_32, s_19_33, s_19_34, s_19_35, s_19_36, s_19_37, s_19_38, s_19_39, s_19_40, s_19_41, s_19_42, s_19_43, s_19_44, s_19_45, s_19_46, s_19_47, s_19_48, s_19_49, s_19_50, s_19_51, s_19_52, s_19_53, s_19_54, s_19_55, s_19_56, s_19_57, s_19_58, s_19_59, s_19_60, s_19_61, s_19_62, s_19_63, s_19_64, yO_34, yO_7, e5, yA_35, yn_35, i1, c1, g1', yA_36, yn_36, a0, b0, n0, g32, gsp, ifb, Bool.false_eq_true, if_false, Gk_v, Gk_n, xcat_nil, xcat_i, xcat_r, xcat_l, xcat_d, Nat.zero_le, Nat.reduceAdd, Nat.reduceLeDiff, true_and, and_true, ykl_i, ykl_r, ykl_n, ykl_l]
      exact Iff.rfl
    · rw [decide_eq_true (by omega)] at gsp
      rw [if_neg hx]
      simp only [s_19_0, s_19_1, s_19_2, s_19_3, s_19_4, s_19_5, s_19_6, s_19_7, s_19_8_0, s_19_8_1, s_19_8_2, s_19_8_3, s_19_8_4, s_19_8_d, s_19_9, s_19_10, s_19_11, s_19_12, s_19_13, s_19_14, s_19_15, s_19_16, s_19_17, s_19_18, s_19_19, s_19_20, s_19_21, s_19_22, s_19_23, s_19_24, s_19_25, s_19_26, s_19_27, s_19_28, s_19_29, s_19_30, s_19_31, s_19_32, s_19_33, s_19_34, s_19_35, s_19_36, s_19_37, s_19_38, s_19_39, s_19_40, s_19_41, s_19_42, s_19_43, s_19_44, s_19_45, s_19_46, s_19_47, s_19_48, s_19_49, s_19_50, s_19_51, s_19_52, s_19_53, s_19_54, s_19_55, s_19_56, s_19_57, s_19_58, s_19_59, s_19_60, s_19_61, s_19_62, s_19_63, s_19_64, yO_34, yO_7, e5, yA_35, yn_35, i1, c1, g1', yA_36, yn_36, a0, b0, n0, g32, gsp, ifb, if_true, Gk_v, Gk_n, xcat_nil, xcat_i, xcat_r, xcat_l, xcat_d, Nat.zero_le, Nat.reduceAdd, Nat.reduceLeDiff, true_and, and_true, ykl_i, ykl_r, ykl_n, ykl_l]
      exact Iff.rfl
end

/-! ===== the model's scripts: words, numbers, repeats ===== -/
/-- the model reads well up to m, with c commands -/
abbrev yMc (t : yT) (n : Nat) (B : Nat → Nat) (m c : Nat) : Prop := yYt t n B ∧ (m ≤ n ∧ (t.A 160 4 = yI m ∧ ((t.A 160 5 = 0 ∧ t.A 160 6 = -1) ∧ t.A 160 23 = yI c)))
abbrev yGm (t : yT) (lo hi : Nat) (T : yTb) : Prop := ∀ i, lo ≤ i → i < hi → t.A 179 (7 * i) = yI (T.1 i) ∧ ((∀ j, j < ynb (T.1 i) → t.A 179 (7 * i + 1 + j) = yI (T.2.1 i j)) ∧ (T.1 i = 5 → t.A 179 (7 * i + 6) = yI (T.2.2 i)))
abbrev yKde (t u : yT) : Prop := (∀ j, j ≠ 4 → j ≠ 5 → j ≠ 6 → j ≠ 17 → j ≠ 23 → u.A 160 j = t.A 160 j) ∧ yFr (fun a => a = 160 ∨ a = 179) t u
abbrev yKd (t u : yT) (c : Nat) : Prop := yKde t u ∧ ∀ x, x < 7 * c → u.A 179 x = t.A 179 x
def yRd (run : yT → Prop) (t : yT) (n : Nat) (B : Nat → Nat) (c : Nat) (r : yPg) : Prop := match r with
  | .inr (q', (c', T')) => ∃ u m', run u ∧ (yMc u n B m' c' ∧ (ysk n B m' = q' ∧ (yGm u c c' T' ∧ yKd t u c)))
  | .inl (e, a) => ∃ u, run u ∧ (yEr u e a ∧ yKde t u)
section
variable {t u v : yT} {n : Nat} {B : Nat → Nat} {m m' c c' : Nat}
theorem yKde_tr (h : yKde t u) (h' : yKde u v) : yKde t v := ⟨fun j a b d e f => by rw [h'.1 j a b d e f, h.1 j a b d e f], h.2.trans h'.2 (fun a h => h.elim id id)⟩
theorem yKd_tr (h : yKd t u c) (h' : yKd u v c') (hc : c ≤ c') : yKd t v c := ⟨yKde_tr h.1 h'.1, fun x hx => by rw [h'.2 x (by omega), h.2 x hx]⟩
theorem yKde_e (F : yFe t u) (hj : ∀ j, j ≠ 4 → j ≠ 5 → j ≠ 6 → j ≠ 17 → u.A 160 j = t.A 160 j) : yKde t u := ⟨fun j a b d e _ => hj j a b d e, F.1.mono (fun a h => Or.inl h)⟩
theorem yKd_e (F : yFe t u) (hj : ∀ j, j ≠ 4 → j ≠ 5 → j ≠ 6 → j ≠ 17 → u.A 160 j = t.A 160 j) : yKd t u c := ⟨yKde_e F hj, fun x _ => by rw [F.A (by decide)]⟩
theorem yKde_9 {x : Nat} {w : Int32} : yKde t (t.s1 179 x w) := ⟨fun j _ _ _ _ _ => by rw [ys1_ne (by decide)], yFr_s1 (Or.inr rfl)⟩
theorem yKd_9 {x : Nat} {w : Int32} (h : 7 * c ≤ x) : yKd t (t.s1 179 x w) c := ⟨yKde_9, fun y hy => by rw [ys1_upd, yupd_ne (by omega)]⟩
theorem yKde_23 {w : Int32} : yKde t (t.s1 160 23 w) := ⟨fun j _ _ _ _ h => by rw [ys1_upd, yupd_ne h], yFr_s1 (Or.inl rfl)⟩
theorem yKd_23 {w : Int32} : yKd t (t.s1 160 23 w) c := ⟨yKde_23, fun y _ => by rw [ys1_ne (by decide)]⟩
theorem yKd_rfl : yKd t t c := ⟨⟨fun _ _ _ _ _ _ => rfl, yFr.rfl'⟩, fun _ _ => rfl⟩
theorem yMc_e (M : yMc t n B m c) (hm : m' ≤ n) (h4 : u.A 160 4 = yI m') (hj : ∀ j, j ≠ 4 → j ≠ 17 → u.A 160 j = t.A 160 j) (F : yFe t u) : yMc u n B m' c ∧ yKd t u c' := by
  obtain ⟨Y, -, -, ⟨h5, h6⟩, h23⟩ := M
  exact ⟨⟨yYt_fr Y (hj 3 (by decide) (by decide)) F, hm, h4, ⟨by rw [hj 5 (by decide) (by decide)]; exact h5, by rw [hj 6 (by decide) (by decide)]; exact h6⟩, by rw [hj 23 (by decide) (by decide)]; exact h23⟩, yKd_e F (fun j a _ _ b => hj j a b)⟩
/-- a cell of the script -/
theorem yMc_9 (M : yMc t n B m c) {x : Nat} {w : Int32} : yMc (t.s1 179 x w) n B m c := by
  obtain ⟨Y, h1, h2, ⟨h3, h4⟩, h5⟩ := M
  refine ⟨⟨Y.1, ?_, fun i hi => ?_⟩, h1, ?_, ⟨?_, ?_⟩, ?_⟩
  · rw [ys1_ne (by decide)]; exact Y.2.1
  · rw [ys1_ne (by decide)]; exact Y.2.2 i hi
  · rw [ys1_ne (by decide)]; exact h2
  · rw [ys1_ne (by decide)]; exact h3
  · rw [ys1_ne (by decide)]; exact h4
  · rw [ys1_ne (by decide)]; exact h5
theorem yMc_23 (M : yMc t n B m c) : yMc (t.s1 160 23 (yI c')) n B m c' := by
  obtain ⟨Y, h1, h2, ⟨h3, h4⟩, h5⟩ := M
  refine ⟨yYt_4 Y (by decide), h1, ?_, ⟨?_, ?_⟩, ys1_same⟩
  · rw [ys1_upd, yupd_ne (by decide)]; exact h2
  · rw [ys1_upd, yupd_ne (by decide)]; exact h3
  · rw [ys1_upd, yupd_ne (by decide)]; exact h4
end
section
variable {d : Nat} {t : yT} {n : Nat} {B : Nat → Nat} {m c c0 : Nat}
theorem c_131 (M : yMc t n B m c) : ∃ u, Ra (d + 1) 131 [.ref 160] (yemb t) (.inl (some (.int (ybt n B (ysk n B m))))) (yemb u) ∧ (yMc u n B (ysk n B m) c ∧ yKd t u c0) := by
  obtain ⟨u, hu, u4, uj, F⟩ := m_131 (d := d) M.1 M.2.1 M.2.2.1
  exact ⟨u, hu, yMc_e M (ysk_le M.2.1).2 u4 (fun j h _ => uj j h) F⟩
theorem c_132 (M : yMc t n B m c) : Ra d 132 [.ref 160] (yemb t) (.inl (some (.int 1))) (yemb t) := by
  have g := m_132 (d := d) (t := t)
  rw [decide_eq_true M.2.2.2.1.1] at g
  exact g
theorem c_135 (M : yMc t n B m c) {i : Nat} (hi : i < 14) : ∃ u, Ra (d + 4) 135 [.ref 160, .ref (1000100 + i)] (yemb t) (.inl (some (.int (yb (yisw n B (ysk n B m) i))))) (yemb u) ∧ (yMc u n B (if yisw n B (ysk n B m) i = true then ysk n B m + ywl i else ysk n B m) c ∧ yKd t u c0) := by
  obtain ⟨u, hu, u4, uj, F⟩ := m_135 (d := d) M.1 hi M.2.1 M.2.2.1 M.2.2.2.1.1
  have hs := ysk_le (n := n) (B := B) M.2.1
  refine ⟨u, hu, yMc_e M ?_ u4 (fun j h _ => uj j h) F⟩
  split
  · rename_i h
    have g1 := yisw_e hi hs.2 h
    have g2 := yte_le (n := n) (B := B) hs.2
    omega
  · exact hs.2
theorem c_137 (M : yMc t n B m c) {lo hi : Nat} (hl : lo < 10000) (hh : hi < 10000) (h : ynum n B (ysk n B m) lo hi = true) : ∃ u, Ra (d + 2) 137 [.ref 160, .int (yI lo), .int (yI hi)] (yemb t) (.inl (some (.int (yI (ynv n B (ysk n B m)))))) (yemb u) ∧ (yMc u n B (yw ydg B (n - ysk n B m) (ysk n B m)) c ∧ (yKd t u c0 ∧ u.A 179 = t.A 179)) := by
  obtain ⟨u, hu, hr, hj, F⟩ := m_137 (d := d) M.1 hl hh M.2.1 M.2.2.1 M.2.2.2.1.1
  rw [h, if_pos rfl] at hu
  rw [h, if_pos rfl] at hr
  obtain ⟨h4, h17, h5, h6⟩ := hr
  have hs := ysk_le (n := n) (B := B) M.2.1
  have hw := yw_le (P := ydg) (B := B) (n - ysk n B m) (ysk n B m)
  obtain ⟨M1, K1⟩ := yMc_e (c' := c0) M (show yw ydg B (n - ysk n B m) (ysk n B m) ≤ n by omega) h4 (fun j h1 h2 => by
    by_cases e5 : j = 5
    · rw [e5, h5]; exact M.2.2.2.1.1.symm
    · by_cases e6 : j = 6
      · rw [e6]; exact h6
      · exact hj j h1 e5 e6 h2) F
  exact ⟨u, hu, M1, K1, F.A (by decide)⟩
theorem c_137f (M : yMc t n B m c) {lo hi : Nat} (hl : lo < 10000) (hh : hi < 10000) (h : ynum n B (ysk n B m) lo hi = false) : ∃ u, Ra (d + 2) 137 [.ref 160, .int (yI lo), .int (yI hi)] (yemb t) (.inl (some (.int 0))) (yemb u) ∧ (yEr u (yne n B (ysk n B m)) (ysk n B m) ∧ yKde t u) := by
  obtain ⟨u, hu, hr, hj, F⟩ := m_137 (d := d) M.1 hl hh M.2.1 M.2.2.1 M.2.2.2.1.1
  rw [h, if_neg (by decide)] at hu
  rw [h, if_neg (by decide)] at hr
  refine ⟨u, hu, ⟨?_, hr.1, hr.2⟩, yKde_e F hj⟩
  rw [hr.1]
  split <;> decide
theorem c_136 (M : yMc t n B m c) {x : Nat} (hx : x < 256) (h : yat n B (ysk n B m) x = true) : ∃ u, Ra (d + 2) 136 [.ref 160, .int (yI x)] (yemb t) (.inl none) (yemb u) ∧ (yMc u n B (ysk n B m + 1) c ∧ (yKd t u c0 ∧ u.A 179 = t.A 179)) := by
  obtain ⟨u, hu, u4, uj, F⟩ := m_136t (d := d) M.1 M.2.1 M.2.2.1 M.2.2.2.1.1 hx (of_decide_eq_true h)
  have := (of_decide_eq_true h).1
  obtain ⟨M1, K1⟩ := yMc_e (c' := c0) M (show ysk n B m + 1 ≤ n by omega) u4 (fun j h _ => uj j h) F
  exact ⟨u, hu, M1, K1, F.A (by decide)⟩
theorem c_136f (M : yMc t n B m c) {x : Nat} (hx : x < 256) (h : yat n B (ysk n B m) x = false) : ∃ u, Ra (d + 2) 136 [.ref 160, .int (yI x)] (yemb t) (.inl none) (yemb u) ∧ (yEr u (-2) (ysk n B m) ∧ yKde t u) := by
  obtain ⟨u, hu, u4, u5, u6, uj, F⟩ := m_136f (d := d) M.1 M.2.1 M.2.2.1 M.2.2.2.1.1 hx (of_decide_eq_false h)
  exact ⟨u, hu, ⟨by rw [u5]; decide, u5, u6⟩, yKde_e F (fun j a b d _ => uj j a b d)⟩
theorem c_133 (M : yMc t n B m c) {e : Int32} (he : ¬ e = 0) {a : Nat} : ∃ u, Ra d 133 [.ref 160, .int e, .int (yI a)] (yemb t) (.inl none) (yemb u) ∧ (yEr u e a ∧ (yKde t u ∧ (u.A 160 23 = yI c))) := by
  refine ⟨_, m_133 M.2.2.2.1.1, ⟨?_, ?_, ys1_same⟩, yKde_e (yFe_tr yFe_s1 yFe_s1) (fun j _ h5 h6 _ => by rw [ys1_upd, yupd_ne h6, ys1_upd, yupd_ne h5]), ?_⟩
  · rw [ys1_upd, yupd_ne (by decide), ys1_upd, yupd_same]; exact he
  · rw [ys1_upd, yupd_ne (by decide), ys1_upd, yupd_same]
  · rw [ys1_upd, yupd_ne (by decide), ys1_upd, yupd_ne (by decide)]; exact M.2.2.2.2
theorem m_152 (M : yMc t n B m c) : ∃ u, Ra (d + 5) 152 [.ref 160] (yemb t) (.inl (some (.int (ykI (ykh n B (ysk n B m)))))) (yemb u) ∧ (yMc u n B (if ykh n B (ysk n B m) = 6 then ysk n B m else ysk n B m + ywl (ykw (ykh n B (ysk n B m)))) c ∧ yKd t u c0) := by
  have hid := ysk_idem (n := n) (B := B) M.2.1
  obtain ⟨u1, hu1, M1, K1⟩ := c_135 (d := d) (c0 := c0) M (i := 6) (by decide)
  have hu1' : ∀ Q', Cl (d + 4) 135 [.ref 160, .ref 1000106] (yemb t) Q' ↔ Q' _ (yemb u1) := hu1
  generalize ysk n B m = q at *
  unfold ykh
  cases h6 : yisw n B q 6
  · rw [h6] at hu1'
    rw [h6, if_neg (by decide)] at M1
    have x9 := c_135 (d := d) (c0 := c0) M1 (i := 9) (by decide)
    rw [hid] at x9
    obtain ⟨u2, hu2, M2, K2⟩ := x9
    have hu2' : ∀ Q', Cl (d + 4) 135 [.ref 160, .ref 1000109] (yemb u1) Q' ↔ Q' _ (yemb u2) := hu2
    have K12 := yKd_tr K1 K2 (Nat.le_refl _)
    cases h9 : yisw n B q 9
    · rw [h9] at hu2'
      rw [h9, if_neg (by decide)] at M2
      have x7 := c_135 (d := d) (c0 := c0) M2 (i := 7) (by decide)
      rw [hid] at x7
      obtain ⟨u3, hu3, M3, K3⟩ := x7
      have hu3' : ∀ Q', Cl (d + 4) 135 [.ref 160, .ref 1000107] (yemb u2) Q' ↔ Q' _ (yemb u3) := hu3
      have K13 := yKd_tr K12 K3 (Nat.le_refl _)
      cases h7 : yisw n B q 7
      · rw [h7] at hu3'
        rw [h7, if_neg (by decide)] at M3
        have x10 := c_135 (d := d) (c0 := c0) M3 (i := 10) (by decide)
        rw [hid] at x10
        obtain ⟨u4, hu4, M4, K4⟩ := x10
        have hu4' : ∀ Q', Cl (d + 4) 135 [.ref 160, .ref 1000110] (yemb u3) Q' ↔ Q' _ (yemb u4) := hu4
        have K14 := yKd_tr K13 K4 (Nat.le_refl _)
        cases h10 : yisw n B q 10
        · rw [h10] at hu4'
          rw [h10, if_neg (by decide)] at M4
          have x2 := c_135 (d := d) (c0 := c0) M4 (i := 2) (by decide)
          rw [hid] at x2
          obtain ⟨u5, hu5, M5, K5⟩ := x2
          have hu5' : ∀ Q', Cl (d + 4) 135 [.ref 160, .ref 1000102] (yemb u4) Q' ↔ Q' _ (yemb u5) := hu5
          have K15 := yKd_tr K14 K5 (Nat.le_refl _)
          cases h2 : yisw n B q 2
          · rw [h2] at hu5'
            rw [h2, if_neg (by decide)] at M5
            have x8 := c_135 (d := d) (c0 := c0) M5 (i := 8) (by decide)
            rw [hid] at x8
            obtain ⟨u6, hu6, M6, K6⟩ := x8
            have hu6' : ∀ Q', Cl (d + 4) 135 [.ref 160, .ref 1000108] (yemb u5) Q' ↔ Q' _ (yemb u6) := hu6
            have K16 := yKd_tr K15 K6 (Nat.le_refl _)
            cases h8 : yisw n B q 8
            · rw [h8] at hu6'
              rw [h8, if_neg (by decide)] at M6
              refine ⟨u6, fun Q => ?_, M6, K16⟩
              show G (d + 5) 152 0 [some (.ref 160)] [] (yemb t) Q ↔ _
              simp only [s_152_0, s_152_1, s_152_2, s_152_3, s_152_4, s_152_5, s_152_6, s_152_7, s_152_8, s_152_9, s_152_10, s_152_11, s_152_12, s_152_13, s_152_14, s_152_15, s_152_16, s_152_17, s_152_18, s_152_19, s_152_20, s_152_21, s_152_22, s_152_23, s_152_24, s_152_25, s_152_26, s_152_27, s_152_28, s_152_29, s_152_30, s_152_31, s_152_32, s_152_33, s_152_34, s_152_35, s_152_36, s_152_37, yO_160, hu1', hu2', hu3', hu4', hu5', hu6', ifb, Bool.false_eq_true, if_false, Gk_v, Gk_n, xcat_nil, xcat_i, xcat_r, xcat_l, xcat_d, Nat.zero_le, Nat.reduceAdd, Nat.reduceLeDiff, true_and, and_true, ykl_i, ykl_r, ykl_n, ykl_l]
              exact Iff.rfl
            · rw [h8] at hu6'
              rw [h8, if_pos rfl] at M6
              refine ⟨u6, fun Q => ?_, M6, K16⟩
              show G (d + 5) 152 0 [some (.ref 160)] [] (yemb t) Q ↔ _
              simp only [s_152_0, s_152_1, s_152_2, s_152_3, s_152_4, s_152_5, s_152_6, s_152_7, s_152_8, s_152_9, s_152_10, s_152_11, s_152_12, s_152_13, s_152_14, s_152_15, s_152_16, s_152_17, s_152_18, s_152_19, s_152_20, s_152_21, s_152_22, s_152_23, s_152_24, s_152_25, s_152_26, s_152_27, s_152_28, s_152_29, s_152_30, s_152_31, s_152_32, s_152_33, s_152_34, s_152_35, s_152_36, s_152_37, yO_160, hu1', hu2', hu3', hu4', hu5', hu6', ifb, Bool.false_eq_true, if_false, if_true, Gk_v, Gk_n, xcat_nil, xcat_i, xcat_r, xcat_l, xcat_d, Nat.zero_le, Nat.reduceAdd, Nat.reduceLeDiff, true_and, and_true, ykl_i, ykl_r, ykl_n, ykl_l]
              exact Iff.rfl
          · rw [h2] at hu5'
            rw [h2, if_pos rfl] at M5
            refine ⟨u5, fun Q => ?_, M5, K15⟩
            show G (d + 5) 152 0 [some (.ref 160)] [] (yemb t) Q ↔ _
            simp only [s_152_0, s_152_1, s_152_2, s_152_3, s_152_4, s_152_5, s_152_6, s_152_7, s_152_8, s_152_9, s_152_10, s_152_11, s_152_12, s_152_13, s_152_14, s_152_15, s_152_16, s_152_17, s_152_18, s_152_19, s_152_20, s_152_21, s_152_22, s_152_23, s_152_24, s_152_25, s_152_26, s_152_27, s_152_28, s_152_29, s_152_30, s_152_31, s_152_32, s_152_33, s_152_34, s_152_35, s_152_36, s_152_37, yO_160, hu1', hu2', hu3', hu4', hu5', ifb, Bool.false_eq_true, if_false, if_true, Gk_v, Gk_n, xcat_nil, xcat_i, xcat_r, xcat_l, xcat_d, Nat.zero_le, Nat.reduceAdd, Nat.reduceLeDiff, true_and, and_true, ykl_i, ykl_r, ykl_n, ykl_l]
            exact Iff.rfl
        · rw [h10] at hu4'
          rw [h10, if_pos rfl] at M4
          refine ⟨u4, fun Q => ?_, M4, K14⟩
          show G (d + 5) 152 0 [some (.ref 160)] [] (yemb t) Q ↔ _
          simp only [s_152_0, s_152_1, s_152_2, s_152_3, s_152_4, s_152_5, s_152_6, s_152_7, s_152_8, s_152_9, s_152_10, s_152_11, s_152_12, s_152_13, s_152_14, s_152_15, s_152_16, s_152_17, s_152_18, s_152_19, s_152_20, s_152_21, s_152_22, s_152_23, s_152_24, s_152_25, s_152_26, s_152_27, s_152_28, s_152_29, s_152_30, s_152_31, s_152_32, s_152_33, s_152_34, s_152_35, s_152_36, s_152_37, yO_160, hu1', hu2', hu3', hu4', ifb, Bool.false_eq_true, if_false, if_true, Gk_v, Gk_n, xcat_nil, xcat_i, xcat_r, xcat_l, xcat_d, Nat.zero_le, Nat.reduceAdd, Nat.reduceLeDiff, true_and, and_true, ykl_i, ykl_r, ykl_n, ykl_l]
          exact Iff.rfl
      · rw [h7] at hu3'
        rw [h7, if_pos rfl] at M3
        refine ⟨u3, fun Q => ?_, M3, K13⟩
        show G (d + 5) 152 0 [some (.ref 160)] [] (yemb t) Q ↔ _
        simp only [s_152_0, s_152_1, s_152_2, s_152_3, s_152_4, s_152_5, s_152_6, s_152_7, s_152_8, s_152_9, s_152_10, s_152_11, s_152_12, s_152_13, s_152_14, s_152_15, s_152_16, s_152_17, s_152_18, s_152_19, s_152_20, s_152_21, s_152_22, s_152_23, s_152_24, s_152_25, s_152_26, s_152_27, s_152_28, s_152_29, s_152_30, s_152_31, s_152_32, s_152_33, s_152_34, s_152_35, s_152_36, s_152_37, yO_160, hu1', hu2', hu3', ifb, Bool.false_eq_true, if_false, if_true, Gk_v, Gk_n, xcat_nil, xcat_i, xcat_r, xcat_l, xcat_d, Nat.zero_le, Nat.reduceAdd, Nat.reduceLeDiff, true_and, and_true, ykl_i, ykl_r, ykl_n, ykl_l]
        exact Iff.rfl
    · rw [h9] at hu2'
      rw [h9, if_pos rfl] at M2
      refine ⟨u2, fun Q => ?_, M2, K12⟩
      show G (d + 5) 152 0 [some (.ref 160)] [] (yemb t) Q ↔ _
      simp only [s_152_0, s_152_1, s_152_2, s_152_3, s_152_4, s_152_5, s_152_6, s_152_7, s_152_8, s_152_9, s_152_10, s_152_11, s_152_12, s_152_13, s_152_14, s_152_15, s_152_16, s_152_17, s_152_18, s_152_19, s_152_20, s_152_21, s_152_22, s_152_23, s_152_24, s_152_25, s_152_26, s_152_27, s_152_28, s_152_29, s_152_30, s_152_31, s_152_32, s_152_33, s_152_34, s_152_35, s_152_36, s_152_37, yO_160, hu1', hu2', ifb, Bool.false_eq_true, if_false, if_true, Gk_v, Gk_n, xcat_nil, xcat_i, xcat_r, xcat_l, xcat_d, Nat.zero_le, Nat.reduceAdd, Nat.reduceLeDiff, true_and, and_true, ykl_i, ykl_r, ykl_n, ykl_l]
      exact Iff.rfl
  · rw [h6] at hu1'
    rw [h6, if_pos rfl] at M1
    refine ⟨u1, fun Q => ?_, M1, K1⟩
    show G (d + 5) 152 0 [some (.ref 160)] [] (yemb t) Q ↔ _
    simp only [s_152_0, s_152_1, s_152_2, s_152_3, s_152_4, s_152_5, s_152_6, s_152_7, s_152_8, s_152_9, s_152_10, s_152_11, s_152_12, s_152_13, s_152_14, s_152_15, s_152_16, s_152_17, s_152_18, s_152_19, s_152_20, s_152_21, s_152_22, s_152_23, s_152_24, s_152_25, s_152_26, s_152_27, s_152_28, s_152_29, s_152_30, s_152_31, s_152_32, s_152_33, s_152_34, s_152_35, s_152_36, s_152_37, yO_160, hu1', ifb, if_true, Gk_v, Gk_n, xcat_nil, xcat_i, xcat_r, xcat_l, xcat_d, Nat.zero_le, Nat.reduceAdd, Nat.reduceLeDiff, true_and, and_true, ykl_i, ykl_r, ykl_n, ykl_l]
    exact Iff.rfl
/-- numbers, in error: nothing is read -/
theorem l_153ne {x1 x2 x3 : Int32} {M : Nat} (hM : M ≤ 5) (hc : c < 61) : ∀ m i (t : yT), i + m = M → ¬ t.A 160 5 = 0 → ∃ u, Gg (d + 3) 153 80 [some (.ref 160), some (.int x1), some (.int x2), some (.int x3), some (.int (yI (7 * c))), some (.int (yI M)), some (.int (yI (i + 1)))] [] (yemb t) 95 [some (.ref 160), some (.int x1), some (.int x2), some (.int x3), some (.int (yI (7 * c))), some (.int (yI M)), some (.int (yI (M + 1)))] [] (yemb u) ∧ (u.A 160 = t.A 160 ∧ yKd t u c) := by
  intro m
  induction m with
  | zero =>
    intro i t hi h5
    obtain rfl : i = M := by omega
    have c1 : yI i < yI (i + 1) := (yI_lt (by omega) (by omega)).mpr (by omega)
    refine ⟨t, fun Q => ?_, rfl, yKd_rfl⟩
    rw [s_153_80]
    simp only [s_153_1, s_153_2, s_153_3, s_153_4, s_153_5, s_153_6, s_153_7, s_153_8, s_153_9, s_153_10, s_153_11, s_153_12, s_153_13, s_153_14, s_153_15, s_153_16, s_153_17, s_153_18, s_153_19, s_153_20, s_153_21, s_153_22, s_153_23, s_153_24, s_153_25, s_153_26, s_153_27, s_153_28, s_153_29, s_153_30, s_153_31, s_153_32, s_153_33, s_153_34, s_153_35, s_153_36, s_153_37, s_153_38, s_153_39, s_153_40, s_153_41, s_153_42, s_153_43, s_153_44, s_153_45, s_153_46, s_153_47, s_153_48, s_153_49, s_153_50, s_153_51, s_153_52, s_153_53, s_153_54, s_153_55, s_153_56, s_153_57, s_153_58, s_153_59, s_153_59i, s_153_60, s_153_61, s_153_62, s_153_63, s_153_64, s_153_65, s_153_66, s_153_67, s_153_68, s_153_69, s_153_70, s_153_71, s_153_72, s_153_73, s_153_74, s_153_75, s_153_76, s_153_77, s_153_78, s_153_79, s_153_81, s_153_82, s_153_83, s_153_84, s_153_85, s_153_86, s_153_87, s_153_88, s_153_89, s_153_90, s_153_91, s_153_92, s_153_93, s_153_94, s_153_96, s_153_97, s_153_98, s_153_99, s_153_100, s_153_101, s_153_102, s_153_103, s_153_104, s_153_105, s_153_106, c1, if_true, Gk_v, Gk_n, xcat_nil, xcat_i, xcat_r, xcat_l, xcat_d, Nat.zero_le, Nat.reduceAdd, Nat.reduceLeDiff, true_and, and_true, ykl_i, ykl_r, ykl_n, ykl_l]
  | succ m ih =>
    intro i t hi h5
    have c1 : ¬ yI M < yI (i + 1) := fun h => absurd ((yI_lt (by omega) (by omega)).mp h) (by omega)
    have g137 := fun (lo hi : Int32) => m_137n (d := d) h5 (lo := lo) (hi := hi)
    have e1 : yI (7 * c) + yI (i + 1) = yI (7 * c + (i + 1)) := yI_add
    have i1 : yix (yI (7 * c + (i + 1))) 427 := yix_I (by omega) (by omega)
    have c2 : (yI (7 * c + (i + 1))).toNatClampNeg = 7 * c + (i + 1) := yI_clamp (by omega)
    have h7 : yI (i + 1) + 1 = yI (i + 1 + 1) := yI_add
    obtain ⟨u, hu, eu, Ku⟩ := ih (i + 1) (t.s1 179 (7 * c + (i + 1)) 0) (by omega) (by rw [ys1_ne (by decide)]; exact h5)
    refine ⟨u, fun Q => ?_, by rw [eu, ys1_ne (by decide)], yKd_tr (yKd_9 (by omega)) Ku (Nat.le_refl _)⟩
    have hu' := hu Q
    rw [s_153_80]
    simp only [s_153_1, s_153_2, s_153_3, s_153_4, s_153_5, s_153_6, s_153_7, s_153_8, s_153_9, s_153_10, s_153_11, s_153_12, s_153_13, s_153_14, s_153_15, s_153_16, s_153_17, s_153_18, s_153_19, s_153_20, s_153_21, s_153_22, s_153_23, s_153_24, s_153_25, s_153_26, s_153_27, s_153_28, s_153_29, s_153_30, s_153_31, s_153_32, s_153_33, s_153_34, s_153_35, s_153_36, s_153_37, s_153_38, s_153_39, s_153_40, s_153_41, s_153_42, s_153_43, s_153_44, s_153_45, s_153_46, s_153_47, s_153_48, s_153_49, s_153_50, s_153_51, s_153_52, s_153_53, s_153_54, s_153_55, s_153_56, s_153_57, s_153_58, s_153_59, s_153_59i, s_153_60, s_153_61, s_153_62, s_153_63, s_153_64, s_153_65, s_153_66, s_153_67, s_153_68, s_153_69, s_153_70, s_153_71, s_153_72, s_153_73, s_153_74, s_153_75, s_153_76, s_153_77, s_153_78, s_153_79, s_153_81, s_153_82, s_153_83, s_153_84, s_153_85, s_153_86, s_153_87, s_153_88, s_153_89, s_153_90, s_153_91, s_153_92, s_153_93, s_153_94, s_153_96, s_153_97, s_153_98, s_153_99, s_153_100, s_153_101, s_153_102, s_153_103, s_153_104, s_153_105, s_153_106, yO_160, yA_179, yn_179, c1, if_false, g137, e1, i1, c2, h7, Gk_v, Gk_n, xcat_nil, xcat_i, xcat_r, xcat_l, xcat_d, Nat.zero_le, Nat.reduceAdd, Nat.reduceLeDiff, true_and, and_true, ykl_i, ykl_r, ykl_n, ykl_l]
    exact hu'
theorem l_153n {x1 x2 x3 : Int32} {M : Nat} (hM : M ≤ 5) (hc : c < 61) : ∀ m i mp r (t : yT), i + m = M → yMc t n B mp c0 →
    (∀ e a, yrn n B 0 9999 m i (ysk n B mp) r = .inl (e, a) → ∃ u, Gg (d + 3) 153 80 [some (.ref 160), some (.int x1), some (.int x2), some (.int x3), some (.int (yI (7 * c))), some (.int (yI M)), some (.int (yI (i + 1)))] [] (yemb t) 95 [some (.ref 160), some (.int x1), some (.int x2), some (.int x3), some (.int (yI (7 * c))), some (.int (yI M)), some (.int (yI (M + 1)))] [] (yemb u) ∧ (yEr u e a ∧ yKde t u))
    ∧ (∀ q' r', yrn n B 0 9999 m i (ysk n B mp) r = .inr (q', r') → (∀ j, j < i → t.A 179 (7 * c + 1 + j) = yI (r j)) → ∃ u m', Gg (d + 3) 153 80 [some (.ref 160), some (.int x1), some (.int x2), some (.int x3), some (.int (yI (7 * c))), some (.int (yI M)), some (.int (yI (i + 1)))] [] (yemb t) 95 [some (.ref 160), some (.int x1), some (.int x2), some (.int x3), some (.int (yI (7 * c))), some (.int (yI M)), some (.int (yI (M + 1)))] [] (yemb u) ∧ (yMc u n B m' c0 ∧ (ysk n B m' = q' ∧ ((∀ j, j < M → u.A 179 (7 * c + 1 + j) = yI (r' j)) ∧ (u.A 179 (7 * c) = t.A 179 (7 * c) ∧ yKd t u c))))) := by
  intro m
  induction m with
  | zero =>
    intro i mp r t hi Mc
    obtain rfl : i = M := by omega
    refine ⟨fun e a h => (by cases h), fun q' r' h hr => ?_⟩
    cases h
    have c1 : yI i < yI (i + 1) := (yI_lt (by omega) (by omega)).mpr (by omega)
    refine ⟨t, mp, fun Q => ?_, Mc, rfl, hr, rfl, yKd_rfl⟩
    rw [s_153_80]
    simp only [s_153_1, s_153_2, s_153_3, s_153_4, s_153_5, s_153_6, s_153_7, s_153_8, s_153_9, s_153_10, s_153_11, s_153_12, s_153_13, s_153_14, s_153_15, s_153_16, s_153_17, s_153_18, s_153_19, s_153_20, s_153_21, s_153_22, s_153_23, s_153_24, s_153_25, s_153_26, s_153_27, s_153_28, s_153_29, s_153_30, s_153_31, s_153_32, s_153_33, s_153_34, s_153_35, s_153_36, s_153_37, s_153_38, s_153_39, s_153_40, s_153_41, s_153_42, s_153_43, s_153_44, s_153_45, s_153_46, s_153_47, s_153_48, s_153_49, s_153_50, s_153_51, s_153_52, s_153_53, s_153_54, s_153_55, s_153_56, s_153_57, s_153_58, s_153_59, s_153_59i, s_153_60, s_153_61, s_153_62, s_153_63, s_153_64, s_153_65, s_153_66, s_153_67, s_153_68, s_153_69, s_153_70, s_153_71, s_153_72, s_153_73, s_153_74, s_153_75, s_153_76, s_153_77, s_153_78, s_153_79, s_153_81, s_153_82, s_153_83, s_153_84, s_153_85, s_153_86, s_153_87, s_153_88, s_153_89, s_153_90, s_153_91, s_153_92, s_153_93, s_153_94, s_153_96, s_153_97, s_153_98, s_153_99, s_153_100, s_153_101, s_153_102, s_153_103, s_153_104, s_153_105, s_153_106, c1, if_true, Gk_v, Gk_n, xcat_nil, xcat_i, xcat_r, xcat_l, xcat_d, Nat.zero_le, Nat.reduceAdd, Nat.reduceLeDiff, true_and, and_true, ykl_i, ykl_r, ykl_n, ykl_l]
  | succ m ih =>
    intro i mp r t hi Mc
    have c1 : ¬ yI M < yI (i + 1) := fun h => absurd ((yI_lt (by omega) (by omega)).mp h) (by omega)
    have e1 : yI (7 * c) + yI (i + 1) = yI (7 * c + (i + 1)) := yI_add
    have i1 : yix (yI (7 * c + (i + 1))) 427 := yix_I (by omega) (by omega)
    have c2 : (yI (7 * c + (i + 1))).toNatClampNeg = 7 * c + (i + 1) := yI_clamp (by omega)
    have h7 : yI (i + 1) + 1 = yI (i + 1 + 1) := yI_add
    rw [yrn]
    cases h1 : ynum n B (ysk n B mp) 0 9999
    · rw [if_neg (by decide)]
      refine ⟨fun e a h => ?_, fun q' r' h => by cases h⟩
      cases h
      obtain ⟨w, hw, E, Kw⟩ := c_137f (d := d) Mc (lo := 0) (hi := 9999) (by decide) (by decide) h1
      have hw' : ∀ Q', Cl (d + 2) 137 [.ref 160, .int 0, .int 9999] (yemb t) Q' ↔ Q' (.inl (some (.int 0))) (yemb w) := hw
      have h5 : ¬ (w.s1 179 (7 * c + (i + 1)) 0).A 160 5 = 0 := by rw [ys1_ne (by decide)]; exact E.1
      obtain ⟨u, hu, eu, Ku⟩ := l_153ne (d := d) (x1 := x1) (x2 := x2) (x3 := x3) hM hc m (i + 1) (w.s1 179 (7 * c + (i + 1)) 0) (by omega) h5
      have eu' : u.A 160 = w.A 160 := by rw [eu, ys1_ne (by decide)]
      refine ⟨u, fun Q => ?_, ⟨by rw [eu']; exact E.1, by rw [eu']; exact E.2.1, by rw [eu']; exact E.2.2⟩, yKde_tr (yKde_tr Kw yKde_9) Ku.1⟩
      have hu' := hu Q
      rw [s_153_80]
      simp only [s_153_1, s_153_2, s_153_3, s_153_4, s_153_5, s_153_6, s_153_7, s_153_8, s_153_9, s_153_10, s_153_11, s_153_12, s_153_13, s_153_14, s_153_15, s_153_16, s_153_17, s_153_18, s_153_19, s_153_20, s_153_21, s_153_22, s_153_23, s_153_24, s_153_25, s_153_26, s_153_27, s_153_28, s_153_29, s_153_30, s_153_31, s_153_32, s_153_33, s_153_34, s_153_35, s_153_36, s_153_37, s_153_38, s_153_39, s_153_40, s_153_41, s_153_42, s_153_43, s_153_44, s_153_45, s_153_46, s_153_47, s_153_48, s_153_49, s_153_50, s_153_51, s_153_52, s_153_53, s_153_54, s_153_55, s_153_56, s_153_57, s_153_58, s_153_59, s_153_59i, s_153_60, s_153_61, s_153_62, s_153_63, s_153_64, s_153_65, s_153_66, s_153_67, s_153_68, s_153_69, s_153_70, s_153_71, s_153_72, s_153_73, s_153_74, s_153_75, s_153_76, s_153_77, s_153_78, s_153_79, s_153_81, s_153_82, s_153_83, s_153_84, s_153_85, s_153_86, s_153_87, s_153_88, s_153_89, s_153_90, s_153_91, s_153_92, s_153_93, s_153_94, s_153_96, s_153_97, s_153_98, s_153_99, s_153_100, s_153_101, s_153_102, s_153_103, s_153_104, s_153_105, s_153_106, yO_160, yA_179, yn_179, c1, if_false, hw', e1, i1, c2, h7, Gk_v, Gk_n, xcat_nil, xcat_i, xcat_r, xcat_l, xcat_d, Nat.zero_le, Nat.reduceAdd, Nat.reduceLeDiff, true_and, and_true, ykl_i, ykl_r, ykl_n, ykl_l]
      exact hu'
    · rw [if_pos rfl]
      obtain ⟨w, hw, Mw, Kw, e9⟩ := c_137 (d := d) (c0 := c) Mc (lo := 0) (hi := 9999) (by decide) (by decide) h1
      have hw' : ∀ Q', Cl (d + 2) 137 [.ref 160, .int 0, .int 9999] (yemb t) Q' ↔ Q' (.inl (some (.int (yI (ynv n B (ysk n B mp)))))) (yemb w) := hw
      have hq1 : ysk n B (yw ydg B (n - ysk n B mp) (ysk n B mp)) = ynq n B (ysk n B mp) := rfl
      rw [← hq1]
      generalize ynv n B (ysk n B mp) = x at *
      generalize yw ydg B (n - ysk n B mp) (ysk n B mp) = m1 at *
      obtain ⟨h2, h3⟩ := ih (i + 1) m1 (yup r i x) (w.s1 179 (7 * c + (i + 1)) (yI x)) (by omega) (yMc_9 Mw)
      have step : ∀ Q, G (d + 3) 153 80 [some (.ref 160), some (.int x1), some (.int x2), some (.int x3), some (.int (yI (7 * c))), some (.int (yI M)), some (.int (yI (i + 1)))] [] (yemb t) Q ↔ G (d + 3) 153 80 [some (.ref 160), some (.int x1), some (.int x2), some (.int x3), some (.int (yI (7 * c))), some (.int (yI M)), some (.int (yI (i + 1 + 1)))] [] (yemb (w.s1 179 (7 * c + (i + 1)) (yI x))) Q := by
        intro Q
        rw [s_153_80]
        simp only [s_153_1, s_153_2, s_153_3, s_153_4, s_153_5, s_153_6, s_153_7, s_153_8, s_153_9, s_153_10, s_153_11, s_153_12, s_153_13, s_153_14, s_153_15, s_153_16, s_153_17, s_153_18, s_153_19, s_153_20, s_153_21, s_153_22, s_153_23, s_153_24, s_153_25, s_153_26, s_153_27, s_153_28, s_153_29, s_153_30, s_153_31, s_153_32, s_153_33, s_153_34, s_153_35, s_153_36, s_153_37, s_153_38, s_153_39, s_153_40, s_153_41, s_153_42, s_153_43, s_153_44, s_153_45, s_153_46, s_153_47, s_153_48, s_153_49, s_153_50, s_153_51, s_153_52, s_153_53, s_153_54, s_153_55, s_153_56, s_153_57, s_153_58, s_153_59, s_153_59i, s_153_60, s_153_61, s_153_62, s_153_63, s_153_64, s_153_65, s_153_66, s_153_67, s_153_68, s_153_69, s_153_70, s_153_71, s_153_72, s_153_73, s_153_74, s_153_75, s_153_76, s_153_77, s_153_78, s_153_79, s_153_81, s_153_82, s_153_83, s_153_84, s_153_85, s_153_86, s_153_87, s_153_88, s_153_89, s_153_90, s_153_91, s_153_92, s_153_93, s_153_94, s_153_96, s_153_97, s_153_98, s_153_99, s_153_100, s_153_101, s_153_102, s_153_103, s_153_104, s_153_105, s_153_106, yO_160, yA_179, yn_179, c1, if_false, hw', e1, i1, c2, h7, Gk_v, Gk_n, xcat_nil, xcat_i, xcat_r, xcat_l, xcat_d, Nat.zero_le, Nat.reduceAdd, Nat.reduceLeDiff, true_and, and_true, ykl_i, ykl_r, ykl_n, ykl_l]
      have K9 : yKd w (w.s1 179 (7 * c + (i + 1)) (yI x)) c := yKd_9 (by omega)
      refine ⟨fun e a h => ?_, fun q' r' h hr => ?_⟩
      · obtain ⟨u, hu, E, Ku⟩ := h2 e a h
        exact ⟨u, fun Q => (step Q).trans (hu Q), E, yKde_tr (yKde_tr Kw.1 K9.1) Ku⟩
      · obtain ⟨u, m', hu, Mu, hq, hn, h0, Ku⟩ := h3 q' r' h (fun j hj => by
          rw [ys1_upd]
          by_cases e : j = i
          · rw [e, show 7 * c + 1 + i = 7 * c + (i + 1) by omega, yupd_same, yup_same]
          · rw [yupd_ne (by omega), yup_ne e, e9]
            exact hr j (by omega))
        refine ⟨u, m', fun Q => (step Q).trans (hu Q), Mu, hq, hn, ?_, yKd_tr (yKd_tr Kw K9 (Nat.le_refl _)) Ku (Nat.le_refl _)⟩
        rw [h0, ys1_upd, yupd_ne (by omega), e9]
theorem m_153n (h5 : ¬ t.A 160 5 = 0) {x : Int32} : Ra (d + 1) 153 [.ref 160, .int x] (yemb t) (.inl none) (yemb t) := by
  intro Q
  have g := w_132n (d := d) h5
  show G (d + 1) 153 0 [some (.ref 160), some (.int x), none, none, none, none, none] [] (yemb t) Q ↔ _
  rw [s_153_0]
  simp only [s_153_1, s_153_2, s_153_3, s_153_4, s_153_5, s_153_6, s_153_7, s_153_8, s_153_9, s_153_10, s_153_11, s_153_12, s_153_13, s_153_14, s_153_15, s_153_16, s_153_17, s_153_18, s_153_19, s_153_20, s_153_21, s_153_22, s_153_23, s_153_24, s_153_25, s_153_26, s_153_27, s_153_28, s_153_29, s_153_30, s_153_31, s_153_32, s_153_33, s_153_34, s_153_35, s_153_36, s_153_37, s_153_38, s_153_39, s_153_40, s_153_41, s_153_42, s_153_43, s_153_44, s_153_45, s_153_46, s_153_47, s_153_48, s_153_49, s_153_50, s_153_51, s_153_52, s_153_53, s_153_54, s_153_55, s_153_56, s_153_57, s_153_58, s_153_59, s_153_59i, s_153_60, s_153_61, s_153_62, s_153_63, s_153_64, s_153_65, s_153_66, s_153_67, s_153_68, s_153_69, s_153_70, s_153_71, s_153_72, s_153_73, s_153_74, s_153_75, s_153_76, s_153_77, s_153_78, s_153_79, s_153_80, s_153_81, s_153_82, s_153_83, s_153_84, s_153_85, s_153_86, s_153_87, s_153_88, s_153_89, s_153_90, s_153_91, s_153_92, s_153_93, s_153_94, s_153_95, s_153_96, s_153_97, s_153_98, s_153_99, s_153_100, s_153_101, s_153_102, s_153_103, s_153_104, s_153_105, s_153_106, yO_160, g, if_true, Gk_v, Gk_n, xcat_nil, xcat_i, xcat_r, xcat_l, xcat_d, Nat.zero_le, Nat.reduceAdd, Nat.reduceLeDiff, true_and, and_true, ykl_i, ykl_r, ykl_n, ykl_l]
/-- a repeat's end, in error -/
theorem l_154f {x : Int32} (hc : c < 61) (h5 : ¬ t.A 160 5 = 0) : Ga (d + 3) 154 18 [some (.ref 160), some (.int (yI (7 * c))), some (.int x)] [] (yemb t) (.inl none) (yemb (t.s1 179 (7 * c + 6) (t.A 160 23))) := by
  intro Q
  have g136 := fun (c : Int32) => m_136n (d := d) h5 (c := c)
  have e1 : yI (7 * c) + 6 = yI (7 * c + 6) := yI_add
  have i1 : yix (yI (7 * c + 6)) 427 := yix_I (by omega) (by omega)
  have c2 : (yI (7 * c + 6)).toNatClampNeg = 7 * c + 6 := yI_clamp (by omega)
  simp only [s_154_0, s_154_1, s_154_2, s_154_3, s_154_4, s_154_5, s_154_6, s_154_7, s_154_8, s_154_9, s_154_10, s_154_11, s_154_12, s_154_13, s_154_14, s_154_15, s_154_16, s_154_17, s_154_18, s_154_19, s_154_20, s_154_21, s_154_22, s_154_23, s_154_24, s_154_25, s_154_26, s_154_27, s_154_28, s_154_29, yO_160, yA_179, yn_179, g136, e1, i1, c2, Gk_v, Gk_n, xcat_nil, xcat_i, xcat_r, xcat_l, xcat_d, Nat.zero_le, Nat.reduceAdd, Nat.reduceLeDiff, true_and, and_true, ykl_i, ykl_r, ykl_n, ykl_l]
theorem l_154e {x : Int32} (hc : c < 61) (h5 : ¬ t.A 160 5 = 0) : Ga (d + 3) 154 10 [some (.ref 160), some (.int (yI (7 * c))), some (.int x)] [] (yemb t) (.inl none) (yemb (t.s1 179 (7 * c + 6) (t.A 160 23))) := by
  intro Q
  have g136 := fun (c : Int32) => m_136n (d := d) h5 (c := c)
  have g153 := fun (y : Int32) => m_153n (d := d + 1) h5 (x := y)
  have gf := l_154f (d := d) (x := x) hc h5 Q
  simp only [s_154_0, s_154_1, s_154_2, s_154_3, s_154_4, s_154_5, s_154_6, s_154_7, s_154_8, s_154_9, s_154_10, s_154_11, s_154_12, s_154_13, s_154_14, s_154_15, s_154_16, s_154_17, s_154_19, s_154_20, s_154_21, s_154_22, s_154_23, s_154_24, s_154_25, s_154_26, s_154_27, s_154_28, s_154_29, yO_160, g136, g153, Gk_v, Gk_n, xcat_nil, xcat_i, xcat_r, xcat_l, xcat_d, Nat.zero_le, Nat.reduceAdd, Nat.reduceLeDiff, true_and, and_true, ykl_i, ykl_r, ykl_n, ykl_l]
  exact gf
abbrev yBd (D : Nat) (dep : Nat) (n : Nat) (B : Nat → Nat) (blk : Nat → Nat → yTb → yPg) : Prop := ∀ (t : yT) (m c : Nat) (T : yTb), yMc t n B m c → c ≤ 60 → yRd (fun u => Ra D 153 [.ref 160, .int (yI dep)] (yemb t) (.inl none) (yemb u)) t n B c (blk (ysk n B m) c T)
/-- a repeat behind its word -/
theorem m_154 {blk : Nat → Nat → yTb → yPg} {dep : Nat} {W : yTb → Nat → Nat → Prop} (HB : yBd (d + 2) (dep + 1) n B blk) (hb : ygood n W blk) (hc : c < 60) (M : yMc t n B m (c + 1)) {T : yTb} (h0 : t.A 179 (7 * c) = yI 5) : yRd (fun u => Ra (d + 3) 154 [.ref 160, .int (yI (7 * c)), .int (yI dep)] (yemb t) (.inl none) (yemb u)) t n B c (match yrn n B 1 20 1 0 (ysk n B m) (T.2.1 c) with
  | .inl e => .inl e
  | .inr (q1, r) => yrep n B blk q1 c (yTk1 T c 5 r)) := by
  have e1 : yI (7 * c) + 1 = yI (7 * c + 1) := yI_add
  have i1 : yix (yI (7 * c + 1)) 427 := yix_I (by omega) (by omega)
  have c2 : (yI (7 * c + 1)).toNatClampNeg = 7 * c + 1 := yI_clamp (by omega)
  have hbad : ∀ (w : yT) (e : Int32) (a : Nat), yEr w e a → yKde t w → (∀ Q, Cl (d + 3) 154 [.ref 160, .int (yI (7 * c)), .int (yI dep)] (yemb t) Q ↔ G (d + 3) 154 10 [some (.ref 160), some (.int (yI (7 * c))), some (.int (yI dep))] [] (yemb w) Q) ∨ (∀ Q, Cl (d + 3) 154 [.ref 160, .int (yI (7 * c)), .int (yI dep)] (yemb t) Q ↔ G (d + 3) 154 18 [some (.ref 160), some (.int (yI (7 * c))), some (.int (yI dep))] [] (yemb w) Q) → yRd (fun u => Ra (d + 3) 154 [.ref 160, .int (yI (7 * c)), .int (yI dep)] (yemb t) (.inl none) (yemb u)) t n B c (.inl (e, a)) := by
    intro w e a E Kw h
    refine ⟨w.s1 179 (7 * c + 6) (w.A 160 23), fun Q => ?_, ⟨by rw [ys1_ne (by decide)]; exact E.1, by rw [ys1_ne (by decide)]; exact E.2.1, by rw [ys1_ne (by decide)]; exact E.2.2⟩, yKde_tr Kw yKde_9⟩
    rcases h with h | h
    · exact (h Q).trans (l_154e (d := d) (by omega) E.1 Q)
    · exact (h Q).trans (l_154f (d := d) (by omega) E.1 Q)
  rw [yrn]
  cases h1 : ynum n B (ysk n B m) 1 20
  · rw [if_neg (by decide)]
    obtain ⟨w, hw, E, Kw⟩ := c_137f (d := d) M (lo := 1) (hi := 20) (by decide) (by decide) h1
    have hw' : ∀ Q', Cl (d + 2) 137 [.ref 160, .int 1, .int 20] (yemb t) Q' ↔ Q' (.inl (some (.int 0))) (yemb w) := hw
    refine hbad (w.s1 179 (7 * c + 1) 0) _ _ ⟨by rw [ys1_ne (by decide)]; exact E.1, by rw [ys1_ne (by decide)]; exact E.2.1, by rw [ys1_ne (by decide)]; exact E.2.2⟩ (yKde_tr Kw yKde_9) (Or.inl (fun Q => ?_))
    show G (d + 3) 154 0 [some (.ref 160), some (.int (yI (7 * c))), some (.int (yI dep))] [] (yemb t) Q ↔ _
    simp only [s_154_0, s_154_1, s_154_2, s_154_3, s_154_4, s_154_5, s_154_6, s_154_7, s_154_8, s_154_9, s_154_11, s_154_12, s_154_13, s_154_14, s_154_15, s_154_16, s_154_17, s_154_18, s_154_19, s_154_20, s_154_21, s_154_22, s_154_23, s_154_24, s_154_25, s_154_26, s_154_27, s_154_28, s_154_29, yO_160, yA_179, yn_179, e1, hw', i1, c2, Gk_v, Gk_n, xcat_nil, xcat_i, xcat_r, xcat_l, xcat_d, Nat.zero_le, Nat.reduceAdd, Nat.reduceLeDiff, true_and, and_true, ykl_i, ykl_r, ykl_n, ykl_l]
  · rw [if_pos rfl]
    obtain ⟨w, hw, Mw, Kw, e9⟩ := c_137 (d := d) (c0 := c) M (lo := 1) (hi := 20) (by decide) (by decide) h1
    have hw' : ∀ Q', Cl (d + 2) 137 [.ref 160, .int 1, .int 20] (yemb t) Q' ↔ Q' (.inl (some (.int (yI (ynv n B (ysk n B m)))))) (yemb w) := hw
    have hq1 : ysk n B (yw ydg B (n - ysk n B m) (ysk n B m)) = ynq n B (ysk n B m) := rfl
    rw [← hq1]
    generalize ynv n B (ysk n B m) = x at *
    generalize yw ydg B (n - ysk n B m) (ysk n B m) = m1 at *
    show yRd _ t n B c (yrep n B blk (ysk n B m1) c (yTk1 T c 5 (yup (T.2.1 c) 0 x)))
    have hr0 : yup (T.2.1 c) 0 x 0 = x := yup_same
    generalize yup (T.2.1 c) 0 x = r at *
    have M1 : yMc (w.s1 179 (7 * c + 1) (yI x)) n B m1 (c + 1) := yMc_9 Mw
    have K1 : yKd t (w.s1 179 (7 * c + 1) (yI x)) c := yKd_tr Kw (yKd_9 (by omega)) (Nat.le_refl _)
    have cell0 : (w.s1 179 (7 * c + 1) (yI x)).A 179 (7 * c) = yI 5 := by rw [ys1_upd, yupd_ne (by omega), e9]; exact h0
    have cell1 : (w.s1 179 (7 * c + 1) (yI x)).A 179 (7 * c + 1) = yI x := ys1_same
    have start : ∀ Q, Cl (d + 3) 154 [.ref 160, .int (yI (7 * c)), .int (yI dep)] (yemb t) Q ↔ G (d + 3) 154 10 [some (.ref 160), some (.int (yI (7 * c))), some (.int (yI dep))] [] (yemb (w.s1 179 (7 * c + 1) (yI x))) Q := by
      intro Q
      show G (d + 3) 154 0 [some (.ref 160), some (.int (yI (7 * c))), some (.int (yI dep))] [] (yemb t) Q ↔ _
      simp only [s_154_0, s_154_1, s_154_2, s_154_3, s_154_4, s_154_5, s_154_6, s_154_7, s_154_8, s_154_9, s_154_11, s_154_12, s_154_13, s_154_14, s_154_15, s_154_16, s_154_17, s_154_18, s_154_19, s_154_20, s_154_21, s_154_22, s_154_23, s_154_24, s_154_25, s_154_26, s_154_27, s_154_28, s_154_29, yO_160, yA_179, yn_179, e1, hw', i1, c2, Gk_v, Gk_n, xcat_nil, xcat_i, xcat_r, xcat_l, xcat_d, Nat.zero_le, Nat.reduceAdd, Nat.reduceLeDiff, true_and, and_true, ykl_i, ykl_r, ykl_n, ykl_l]
    generalize w.s1 179 (7 * c + 1) (yI x) = w1 at *
    have ed : yI dep + 1 = yI (dep + 1) := yI_add
    have e6 : yI (7 * c) + 6 = yI (7 * c + 6) := yI_add
    have i6 : yix (yI (7 * c + 6)) 427 := yix_I (by omega) (by omega)
    have c6 : (yI (7 * c + 6)).toNatClampNeg = 7 * c + 6 := yI_clamp (by omega)
    unfold yrep
    cases h40 : yat n B (ysk n B m1) 40
    · rw [if_neg (by decide)]
      obtain ⟨v, hv, E, Kv⟩ := c_136f (d := d) M1 (x := 40) (by decide) h40
      have hv' : ∀ Q', Cl (d + 2) 136 [.ref 160, .int 40] (yemb w1) Q' ↔ Q' (.inl none) (yemb v) := hv
      have g153 := fun (y : Int32) => m_153n (d := d + 1) E.1 (x := y)
      refine hbad v _ _ E (yKde_tr K1.1 Kv) (Or.inr (fun Q => (start Q).trans ?_))
      rw [s_154_10]
      simp only [s_154_0, s_154_1, s_154_2, s_154_3, s_154_4, s_154_5, s_154_6, s_154_7, s_154_8, s_154_9, s_154_11, s_154_12, s_154_13, s_154_14, s_154_15, s_154_16, s_154_17, s_154_19, s_154_20, s_154_21, s_154_22, s_154_23, s_154_24, s_154_25, s_154_26, s_154_27, s_154_28, s_154_29, yO_160, hv', g153, Gk_v, Gk_n, xcat_nil, xcat_i, xcat_r, xcat_l, xcat_d, Nat.zero_le, Nat.reduceAdd, Nat.reduceLeDiff, true_and, and_true, ykl_i, ykl_r, ykl_n, ykl_l]
    · rw [if_pos rfl]
      obtain ⟨v, hv, Mv, Kv, e9v⟩ := c_136 (d := d) (c0 := c) M1 (x := 40) (by decide) h40
      have hv' : ∀ Q', Cl (d + 2) 136 [.ref 160, .int 40] (yemb w1) Q' ↔ Q' (.inl none) (yemb v) := hv
      have hg40 := yat_go h40
      have H := HB v (ysk n B m1 + 1) (c + 1) (yTk1 T c 5 r) Mv (by omega)
      have K2 := yKd_tr K1 Kv (Nat.le_refl _)
      have mid : ∀ y, Ra (d + 2) 153 [.ref 160, .int (yI (dep + 1))] (yemb v) (.inl none) (yemb y) → ∀ Q, Cl (d + 3) 154 [.ref 160, .int (yI (7 * c)), .int (yI dep)] (yemb t) Q ↔ G (d + 3) 154 18 [some (.ref 160), some (.int (yI (7 * c))), some (.int (yI dep))] [] (yemb y) Q := by
        intro y hy Q
        refine (start Q).trans ?_
        rw [s_154_10]
        simp only [s_154_0, s_154_1, s_154_2, s_154_3, s_154_4, s_154_5, s_154_6, s_154_7, s_154_8, s_154_9, s_154_11, s_154_12, s_154_13, s_154_14, s_154_15, s_154_16, s_154_17, s_154_19, s_154_20, s_154_21, s_154_22, s_154_23, s_154_24, s_154_25, s_154_26, s_154_27, s_154_28, s_154_29, yO_160, hv', ed, hy, Gk_v, Gk_n, xcat_nil, xcat_i, xcat_r, xcat_l, xcat_d, Nat.zero_le, Nat.reduceAdd, Nat.reduceLeDiff, true_and, and_true, ykl_i, ykl_r, ykl_n, ykl_l]
      rcases hrb : blk (ysk n B (ysk n B m1 + 1)) (c + 1) (yTk1 T c 5 r) with ⟨e, a⟩ | ⟨q2, c2', T2⟩
      · rw [hrb] at H
        obtain ⟨y, hy, E, Ky⟩ := H
        exact hbad y e a E (yKde_tr K2.1 Ky) (Or.inr (mid y hy))
      · obtain ⟨⟨b1, b2⟩, b3, b4⟩ := hb _ _ _ _ _ _ hg40.2 (by omega) hrb
        rw [hrb] at H
        obtain ⟨y, m', hy, My, hm', Gy, Ky⟩ := H
        subst hm'
        have K3 := yKd_tr K2 Ky (by omega)
        show yRd _ t n B c (if yat n B (ysk n B m') 41 = true then .inr (ysk n B (ysk n B m' + 1), (c2', yTe T2 c c2')) else .inl (-2, ysk n B m'))
        cases h41 : yat n B (ysk n B m') 41
        · rw [if_neg (by decide)]
          obtain ⟨z, hz, E, Kz⟩ := c_136f (d := d) My (x := 41) (by decide) h41
          have hz' : ∀ Q', Cl (d + 2) 136 [.ref 160, .int 41] (yemb y) Q' ↔ Q' (.inl none) (yemb z) := hz
          refine ⟨z.s1 179 (7 * c + 6) (z.A 160 23), fun Q => ?_, ⟨by rw [ys1_ne (by decide)]; exact E.1, by rw [ys1_ne (by decide)]; exact E.2.1, by rw [ys1_ne (by decide)]; exact E.2.2⟩, yKde_tr (yKde_tr K3.1 Kz) yKde_9⟩
          refine (mid y hy Q).trans ?_
          rw [s_154_18]
          simp only [s_154_0, s_154_1, s_154_2, s_154_3, s_154_4, s_154_5, s_154_6, s_154_7, s_154_8, s_154_9, s_154_11, s_154_12, s_154_13, s_154_14, s_154_15, s_154_16, s_154_17, s_154_19, s_154_20, s_154_21, s_154_22, s_154_23, s_154_24, s_154_25, s_154_26, s_154_27, s_154_28, s_154_29, yO_160, yA_179, yn_179, hz', e6, i6, c6, Gk_v, Gk_n, xcat_nil, xcat_i, xcat_r, xcat_l, xcat_d, Nat.zero_le, Nat.reduceAdd, Nat.reduceLeDiff, true_and, and_true, ykl_i, ykl_r, ykl_n, ykl_l]
        · rw [if_pos rfl]
          obtain ⟨z, hz, Mz, Kz, e9z⟩ := c_136 (d := d) (c0 := c) My (x := 41) (by decide) h41
          have hz' : ∀ Q', Cl (d + 2) 136 [.ref 160, .int 41] (yemb y) Q' ↔ Q' (.inl none) (yemb z) := hz
          have z23 : z.A 160 23 = yI c2' := Mz.2.2.2.2
          have hT2 := b3 c (Nat.zero_le _) (by omega)
          have hTK : (yTe T2 c c2').1 c = 5 := by
            show T2.1 c = 5
            rw [hT2.1]
            exact yup_same
          have hTN : (yTe T2 c c2').2.1 c = r := by
            show T2.2.1 c = r
            rw [hT2.2.1]
            exact if_pos rfl
          refine ⟨z.s1 179 (7 * c + 6) (yI c2'), _, fun Q => ?_, yMc_9 Mz, rfl, fun i hi1 hi2 => ?_, yKd_tr (yKd_tr K3 Kz (Nat.le_refl _)) (yKd_9 (by omega)) (Nat.le_refl _)⟩
          · refine (mid y hy Q).trans ?_
            rw [s_154_18]
            simp only [s_154_0, s_154_1, s_154_2, s_154_3, s_154_4, s_154_5, s_154_6, s_154_7, s_154_8, s_154_9, s_154_11, s_154_12, s_154_13, s_154_14, s_154_15, s_154_16, s_154_17, s_154_19, s_154_20, s_154_21, s_154_22, s_154_23, s_154_24, s_154_25, s_154_26, s_154_27, s_154_28, s_154_29, yO_160, yA_179, yn_179, hz', e6, i6, c6, z23, Gk_v, Gk_n, xcat_nil, xcat_i, xcat_r, xcat_l, xcat_d, Nat.zero_le, Nat.reduceAdd, Nat.reduceLeDiff, true_and, and_true, ykl_i, ykl_r, ykl_n, ykl_l]
          · by_cases e : i = c
            · subst e
              rw [hTK, hTN]
              refine ⟨?_, fun j hj => ?_, fun _ => ?_⟩
              · rw [ys1_upd, yupd_ne (by omega), e9z, Ky.2 _ (by omega), e9v]; exact cell0
              · have hj0 : j = 0 := by
                  have : ynb 5 = 1 := rfl
                  omega
                subst hj0
                rw [ys1_upd, yupd_ne (by omega), e9z, Ky.2 _ (by omega), e9v, hr0]
                exact cell1
              · rw [ys1_upd, yupd_same]
                exact congrArg yI (yup_same (f := T2.2.2) (i := i) (v := c2')).symm
            · obtain ⟨f1, f2, f3⟩ := Gy i (by omega) hi2
              have hE : (yTe T2 c c2').2.2 i = T2.2.2 i := yup_ne e
              refine ⟨?_, fun j hj => ?_, fun h5 => ?_⟩
              · rw [ys1_upd, yupd_ne (by omega), e9z]; exact f1
              · rw [ys1_upd, yupd_ne (by omega), e9z]; exact f2 j hj
              · rw [ys1_upd, yupd_ne (by omega), e9z, hE]; exact f3 h5
end

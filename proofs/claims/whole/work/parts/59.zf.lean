/-! ===== the model's terms and sums ===== -/
abbrev yFn (D j : Nat) (n : Nat) (B : Nat → Nat) (K : Nat) (fac : Nat → List Int32 → yPs) : Prop := ∀ (t : yT) (m : Nat) (l : List Int32), yMr t n B m l K → l.length ≤ ysk n B m → yMz (fun u => Ra D j [.ref 160] (yemb t) (.inl none) (yemb u)) t n B K (fac (ysk n B m) l)
theorem ybt_no {n : Nat} {B : Nat → Nat} {q c : Nat} (Y : ∀ i, i < n → B i < 256) (hc : c < 256) (h : yat n B q c = false) : ¬ ybt n B q = yI c := fun h' => by
  have h2 := (ybt_is Y hc).mp h'
  rw [show yat n B q c = true from decide_eq_true h2] at h
  cases h
theorem ybt_ye {n : Nat} {B : Nat → Nat} {q c : Nat} (Y : ∀ i, i < n → B i < 256) (hc : c < 256) (h : yat n B q c = true) : ybt n B q = yI c := (ybt_is Y hc).mpr (of_decide_eq_true h)
section
variable {d : Nat} {n : Nat} {B : Nat → Nat} {fac : Nat → List Int32 → yPs} {K : Nat}
theorem m_131M {t : yT} {m k : Nat} {l : List Int32} (M : yMr t n B m l k) : ∃ u, Ra (d + 1) 131 [.ref 160] (yemb t) (.inl (some (.int (ybt n B (ysk n B m))))) (yemb u) ∧ (yMr u n B (ysk n B m) l k ∧ yKj t u) := by
  obtain ⟨v, hv, v4, vj, Fv⟩ := m_131 (d := d) M.1 M.2.1 M.2.2.1
  exact ⟨v, hv, yMr_4 M (ysk_le M.2.1).2 v4 vj Fv⟩
theorem yMr_1 {t : yT} {m m' k : Nat} {l : List Int32} (M : yMr t n B m l k) (h : m' ≤ n) : yMr (t.s1 160 4 (yI m')) n B m' l k ∧ yKj t (t.s1 160 4 (yI m')) :=
  yMr_4 M h ys1_same (fun j hj => by rw [ys1_upd, yupd_ne hj]) yFe_s1
theorem l_140e {t : yT} {l1 : Option Value} (h5 : ¬ t.A 160 5 = 0) : Ga (d + 1) 140 2 [some (.ref 160), l1] [] (yemb t) (.inl none) (yemb t) := by
  intro Q
  have g := m_132 (d := d) (t := t)
  rw [decide_eq_false h5] at g
  rw [s_140_2]
  simp only [s_140_3 yO_160, s_140_4, s_140_37, g, ifb, Bool.false_eq_true, if_false, if_true, Gk_v, Gk_n, xcat_nil, xcat_i, xcat_r, xcat_l, xcat_d, Nat.zero_le, Nat.reduceAdd, Nat.reduceLeDiff, true_and, and_true, ykl_i, ykl_r, ykl_n, ykl_l]
theorem l_140f {t : yT} {m : Nat} {l : List Int32} {l1 : Option Value} (M : yMr t n B m l K) (hm : ymul n B (ysk n B m) = false) : yMz (fun u => Ga (d + 3) 140 2 [some (.ref 160), l1] [] (yemb t) (.inl none) (yemb u)) t n B K (.inr (ysk n B m, l)) := by
  have hid := ysk_idem (n := n) (B := B) M.2.1
  have hY := yYt_b M.1
  obtain ⟨u1, h1, M1, K1⟩ := m_131M (d := d + 1) M
  obtain ⟨u2, h2, M2, K2⟩ := m_131M (d := d + 1) M1
  rw [hid] at h2 M2
  have g := m_132 (d := d + 2) (t := t)
  rw [decide_eq_true M.2.2.2.1] at g
  unfold ymul at hm
  rw [Bool.or_eq_false_iff] at hm
  generalize ysk n B m = q at *
  have n1 : ¬ ybt n B q = 42 := ybt_no hY (c := 42) (by decide) hm.1
  have n2 : ¬ ybt n B q = 47 := ybt_no hY (c := 47) (by decide) hm.2
  refine ⟨u2, q, fun Q => ?_, M2, hid, yKj_tr K1 K2⟩
  rw [s_140_2]
  simp only [s_140_0, s_140_1, s_140_3, s_140_4, s_140_5, s_140_6, s_140_7, s_140_8, s_140_9, s_140_10, s_140_11, s_140_12, s_140_13, s_140_14, s_140_15, s_140_16, s_140_17, s_140_18, s_140_19, s_140_20, s_140_21, s_140_22, s_140_22i, s_140_23, s_140_24, s_140_25, s_140_26, s_140_27, s_140_28, s_140_29, s_140_30, s_140_31, s_140_32, s_140_33, s_140_34, s_140_35, s_140_36, s_140_37, yO_160, g, ifb, if_true, if_false, h1, h2, n1, n2, ne_eq, not_false_eq_true, Gk_v, Gk_n, xcat_nil, xcat_i, xcat_r, xcat_l, xcat_d, Nat.zero_le, Nat.reduceAdd, Nat.reduceLeDiff, true_and, and_true, ykl_i, ykl_r, ykl_n, ykl_l]
theorem l_140 (hf : yfwd n fac) (hl : ylen n fac) (H : yFn (d + 2) 139 n B K fac) : ∀ f (t : yT) (m : Nat) (l : List Int32) (l1 : Option Value), n - ysk n B m ≤ f → yMr t n B m l K → l.length ≤ ysk n B m → yMz (fun u => Ga (d + 3) 140 2 [some (.ref 160), l1] [] (yemb t) (.inl none) (yemb u)) t n B K (ytl n B fac f (ysk n B m) l) := by
  intro f
  induction f with
  | zero =>
    intro t m l l1 hf0 M hlq
    rw [ytl]
    exact l_140f M (ymul_n (by omega))
  | succ f ih =>
    intro t m l l1 hf0 M hlq
    have h600 := M.1.1
    have hY := yYt_b M.1
    rw [ytl]
    cases hm : ymul n B (ysk n B m)
    · rw [if_neg (by decide)]
      exact l_140f M hm
    · rw [if_pos rfl]
      have hlt := ymul_lt hm
      have hs := ysk_le (n := n) (B := B) (m := ysk n B m + 1) (by omega)
      have hid := ysk_idem (n := n) (B := B) M.2.1
      obtain ⟨u1, h1, M1, K1⟩ := m_131M (d := d + 1) M
      obtain ⟨u2, h2, M2, K2⟩ := m_131M (d := d + 1) M1
      rw [hid] at h2 M2
      obtain ⟨u3, h3, M3, K3⟩ := m_131M (d := d + 1) M2
      rw [hid] at h3 M3
      have g := m_132 (d := d + 2) (t := t)
      rw [decide_eq_true M.2.2.2.1] at g
      generalize ysk n B m = q at *
      have key : ∀ (w : yT) (b v : Int32), ((b = 1 ∧ v = -5) ∨ (b = 0 ∧ v = -6)) → yopc n B q = v → yMr w n B q l K → yKj t w → (∀ Q, G (d + 3) 140 2 [some (.ref 160), l1] [] (yemb t) Q ↔ G (d + 3) 140 21 [some (.ref 160), some (.int b)] [] (yemb w) Q) → yMz (fun u => Ga (d + 3) 140 2 [some (.ref 160), l1] [] (yemb t) (.inl none) (yemb u)) t n B K (ythen (fac (ysk n B (q + 1)) l) (fun q' l' => ytl n B fac f q' (l' ++ [yopc n B q]))) := by
        intro w b v hb hv Mw Kw start
        rw [hv]
        obtain ⟨M4, K4⟩ := yMr_1 Mw (m' := q + 1) (by omega)
        have e4 : w.A 160 4 = yI q := Mw.2.2.1
        have e5 : yI q + 1 = yI (q + 1) := yI_add
        have c10 : ¬ (1 : Int32) = 0 := by decide
        have hF := H _ _ l M4 (by omega)
        cases hr : fac (ysk n B (q + 1)) l with
        | inl e =>
          obtain ⟨c, a⟩ := e
          rw [hr] at hF
          obtain ⟨u, hu, un, u5, u6, Ku⟩ := hF
          have ge := fun (c : Int32) => m_138n (d := d + 1) un (c := c)
          have gl := fun (l1 : Option Value) => l_140e (d := d + 2) (l1 := l1) un
          refine ⟨u, fun Q => ?_, un, u5, u6, yKj_tr (yKj_tr Kw K4) Ku⟩
          rw [start Q]
          rcases hb with ⟨rfl, rfl⟩ | ⟨rfl, rfl⟩
          · simp only [s_140_0, s_140_1, s_140_3, s_140_4, s_140_5, s_140_6, s_140_7, s_140_8, s_140_9, s_140_10, s_140_11, s_140_12, s_140_13, s_140_14, s_140_15, s_140_16, s_140_17, s_140_18, s_140_19, s_140_20, s_140_21, s_140_22, s_140_22i, s_140_23, s_140_24, s_140_25, s_140_26, s_140_27, s_140_28, s_140_29, s_140_30, s_140_31, s_140_32, s_140_33, s_140_34, s_140_35, s_140_36, s_140_37, yO_160, e4, e5, hu, ge, gl, c10, if_false, ne_eq, not_false_eq_true, Gk_v, Gk_n, xcat_nil, xcat_i, xcat_r, xcat_l, xcat_d, Nat.zero_le, Nat.reduceAdd, Nat.reduceLeDiff, true_and, and_true, ykl_i, ykl_r, ykl_n, ykl_l]
          · simp only [s_140_0, s_140_1, s_140_3, s_140_4, s_140_5, s_140_6, s_140_7, s_140_8, s_140_9, s_140_10, s_140_11, s_140_12, s_140_13, s_140_14, s_140_15, s_140_16, s_140_17, s_140_18, s_140_19, s_140_20, s_140_21, s_140_22, s_140_22i, s_140_23, s_140_24, s_140_25, s_140_26, s_140_27, s_140_28, s_140_29, s_140_30, s_140_31, s_140_32, s_140_33, s_140_34, s_140_35, s_140_36, s_140_37, yO_160, e4, e5, hu, ge, gl, if_true, ne_eq, not_true_eq_false, if_false, Gk_v, Gk_n, xcat_nil, xcat_i, xcat_r, xcat_l, xcat_d, Nat.zero_le, Nat.reduceAdd, Nat.reduceLeDiff, true_and, and_true, ykl_i, ykl_r, ykl_n, ykl_l]
        | inr z =>
          obtain ⟨q1, l2⟩ := z
          rw [hr] at hF
          obtain ⟨u, m1, hu, Mu, hq1, Ku⟩ := hF
          have g1 := hf _ _ _ _ hs.2 hr
          have g2 := hl _ _ _ _ hs.2 hr
          subst hq1
          have hv2 : ¬ -2 ≤ v := by rcases hb with ⟨_, rfl⟩ | ⟨_, rfl⟩ <;> decide
          obtain ⟨u4, hu4, J4, S4, F4⟩ := ypush1 (d := d + 1) Mu.2.2.2.1 Mu.2.2.2.2.2.1 (by omega) hv2
          obtain ⟨M5, K5⟩ := yMr_p Mu J4 S4 F4
          have hih := ih u4 m1 (l2 ++ [v]) (some (.int b)) (by omega) M5 (by rw [yap1]; omega)
          rw [ythen_ok]
          refine yMz_to (yKj_tr (yKj_tr (yKj_tr Kw K4) Ku) K5) (fun u' hg Q => ?_) hih
          have hg' := hg Q
          rw [start Q]
          rcases hb with ⟨rfl, rfl⟩ | ⟨rfl, rfl⟩
          · rw [show (-1 : Int32) - -5 = 4 by decide] at hu4
            simp only [s_140_0, s_140_1, s_140_3, s_140_4, s_140_5, s_140_6, s_140_7, s_140_8, s_140_9, s_140_10, s_140_11, s_140_12, s_140_13, s_140_14, s_140_15, s_140_16, s_140_17, s_140_18, s_140_19, s_140_20, s_140_21, s_140_22, s_140_22i, s_140_23, s_140_24, s_140_25, s_140_26, s_140_27, s_140_28, s_140_29, s_140_30, s_140_31, s_140_32, s_140_33, s_140_34, s_140_35, s_140_36, s_140_37, yO_160, e4, e5, hu, hu4, c10, if_false, ne_eq, not_false_eq_true, Gk_v, Gk_n, xcat_nil, xcat_i, xcat_r, xcat_l, xcat_d, Nat.zero_le, Nat.reduceAdd, Nat.reduceLeDiff, true_and, and_true, ykl_i, ykl_r, ykl_n, ykl_l]
            exact hg'
          · rw [show (-1 : Int32) - -6 = 5 by decide] at hu4
            simp only [s_140_0, s_140_1, s_140_3, s_140_4, s_140_5, s_140_6, s_140_7, s_140_8, s_140_9, s_140_10, s_140_11, s_140_12, s_140_13, s_140_14, s_140_15, s_140_16, s_140_17, s_140_18, s_140_19, s_140_20, s_140_21, s_140_22, s_140_22i, s_140_23, s_140_24, s_140_25, s_140_26, s_140_27, s_140_28, s_140_29, s_140_30, s_140_31, s_140_32, s_140_33, s_140_34, s_140_35, s_140_36, s_140_37, yO_160, e4, e5, hu, hu4, if_true, ne_eq, not_true_eq_false, if_false, Gk_v, Gk_n, xcat_nil, xcat_i, xcat_r, xcat_l, xcat_d, Nat.zero_le, Nat.reduceAdd, Nat.reduceLeDiff, true_and, and_true, ykl_i, ykl_r, ykl_n, ykl_l]
            exact hg'
      cases h42 : yat n B q 42
      · have h47 : yat n B q 47 = true := by
          unfold ymul at hm
          rw [h42, Bool.false_or] at hm
          exact hm
        have n1 : ¬ ybt n B q = 42 := ybt_no hY (c := 42) (by decide) h42
        have y2 : ybt n B q = 47 := ybt_ye hY (c := 47) (by decide) h47
        have cc : ¬ (47 : Int32) = 42 := by decide
        have ho : yopc n B q = -6 := by
          unfold yopc
          rw [yat_1 (e := 43) (by decide) h47, yat_1 (e := 45) (by decide) h47, h42, h47]; rfl
        rw [y2] at h1 h2 h3
        refine key u3 0 (-6) (Or.inr ⟨rfl, rfl⟩) ho M3 (yKj_tr (yKj_tr K1 K2) K3) (fun Q => ?_)
        rw [s_140_2]
        simp only [s_140_0, s_140_1, s_140_3, s_140_4, s_140_5, s_140_6, s_140_7, s_140_8, s_140_9, s_140_10, s_140_11, s_140_12, s_140_13, s_140_14, s_140_15, s_140_16, s_140_17, s_140_18, s_140_19, s_140_20, s_140_22, s_140_22i, s_140_23, s_140_24, s_140_25, s_140_26, s_140_27, s_140_28, s_140_29, s_140_30, s_140_31, s_140_32, s_140_33, s_140_34, s_140_35, s_140_36, s_140_37, yO_160, g, ifb, if_true, if_false, h1, h2, h3, cc, ne_eq, not_true_eq_false, not_false_eq_true, Gk_v, Gk_n, xcat_nil, xcat_i, xcat_r, xcat_l, xcat_d, Nat.zero_le, Nat.reduceAdd, Nat.reduceLeDiff, true_and, and_true, ykl_i, ykl_r, ykl_n, ykl_l]
      · have y1 : ybt n B q = 42 := ybt_ye hY (c := 42) (by decide) h42
        have ho : yopc n B q = -5 := by
          unfold yopc
          rw [yat_1 (e := 43) (by decide) h42, yat_1 (e := 45) (by decide) h42, h42]; rfl
        rw [y1] at h1 h2
        refine key u2 1 (-5) (Or.inl ⟨rfl, rfl⟩) ho M2 (yKj_tr K1 K2) (fun Q => ?_)
        rw [s_140_2]
        simp only [s_140_0, s_140_1, s_140_3, s_140_4, s_140_5, s_140_6, s_140_7, s_140_8, s_140_9, s_140_10, s_140_11, s_140_12, s_140_13, s_140_14, s_140_15, s_140_16, s_140_17, s_140_18, s_140_19, s_140_20, s_140_22, s_140_22i, s_140_23, s_140_24, s_140_25, s_140_26, s_140_27, s_140_28, s_140_29, s_140_30, s_140_31, s_140_32, s_140_33, s_140_34, s_140_35, s_140_36, s_140_37, yO_160, g, ifb, if_true, if_false, h1, h2, ne_eq, not_true_eq_false, not_false_eq_true, Gk_v, Gk_n, xcat_nil, xcat_i, xcat_r, xcat_l, xcat_d, Nat.zero_le, Nat.reduceAdd, Nat.reduceLeDiff, true_and, and_true, ykl_i, ykl_r, ykl_n, ykl_l]
theorem m_140 (hf : yfwd n fac) (hl : ylen n fac) (H : yFn (d + 2) 139 n B K fac) : yFn (d + 3) 140 n B K (ytm' n B fac) := by
  intro t m l M hlq
  have h600 := M.1.1
  have hs := ysk_le (n := n) (B := B) M.2.1
  have hF := H t m l M hlq
  unfold ytm'
  cases hr : fac (ysk n B m) l with
  | inl e =>
    obtain ⟨c, a⟩ := e
    rw [hr] at hF
    obtain ⟨u, hu, un, u5, u6, Ku⟩ := hF
    have gl := fun (l1 : Option Value) => l_140e (d := d + 2) (l1 := l1) un
    refine ⟨u, fun Q => ?_, un, u5, u6, Ku⟩
    show G (d + 3) 140 0 [some (.ref 160), none] [] (yemb t) Q ↔ _
    simp only [s_140_0, s_140_1 yO_160, hu, gl, Gk_v, Gk_n, xcat_nil, xcat_i, xcat_r, xcat_l, xcat_d, Nat.zero_le, Nat.reduceAdd, Nat.reduceLeDiff, true_and, and_true, ykl_i, ykl_r, ykl_n, ykl_l]
  | inr z =>
    obtain ⟨q1, l2⟩ := z
    rw [hr] at hF
    obtain ⟨u, m1, hu, Mu, hq1, Ku⟩ := hF
    have g1 := hf _ _ _ _ hs.2 hr
    have g2 := hl _ _ _ _ hs.2 hr
    subst hq1
    rw [ythen_ok]
    refine yMz_to Ku (fun u' hg Q => ?_) (l_140 (d := d) hf hl H n u m1 l2 none (by omega) Mu (by omega))
    have hg' := hg Q
    show G (d + 3) 140 0 [some (.ref 160), none] [] (yemb t) Q ↔ _
    simp only [s_140_0, s_140_1 yO_160, hu, Gk_v, Gk_n, xcat_nil, xcat_i, xcat_r, xcat_l, xcat_d, Nat.zero_le, Nat.reduceAdd, Nat.reduceLeDiff, true_and, and_true, ykl_i, ykl_r, ykl_n, ykl_l]
    exact hg'
end

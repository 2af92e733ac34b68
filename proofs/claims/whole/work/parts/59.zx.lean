/-! ===== the model's setups: a new draft, a text begins ===== -/
/-- the origins of pixels p and on -/
def ylo : Nat → Nat → (Nat → Int32) → (Nat → Int32)
  | 0, _, F => F
  | m + 1, p, F => ylo m (p + 1) (upd F (8 + 8 * p + 6) (-1))
theorem ylo_ne {j : Nat} : ∀ m p F, (∀ q, p ≤ q → q < p + m → j ≠ 8 + 8 * q + 6) → ylo m p F j = F j := by
  intro m
  induction m with
  | zero => intro p F _; rfl
  | succ m ih =>
    intro p F h
    rw [ylo, ih (p + 1) _ (fun q h1 h2 => h q (by omega) (by omega)), yupd_ne (h p (Nat.le_refl _) (by omega))]
theorem ylo_at {q : Nat} : ∀ m p F, p ≤ q → q < p + m → ylo m p F (8 + 8 * q + 6) = -1 := by
  intro m
  induction m with
  | zero => intro p F h1 h2; omega
  | succ m ih =>
    intro p F h1 h2
    rw [ylo]
    by_cases e : p = q
    · rw [e, ylo_ne _ _ _ (fun r g1 g2 => by omega), yupd_same]
    · exact ih (p + 1) _ (by omega) (by omega)
def ylay0 (S : Nat → Int32) (x y : Int32) : Nat → Int32 := upd (upd (upd (upd (upd (fun j => if j < 1540 then 0 else S j) 0 x) 1 y) 2 255) 3 1) 329 9999
def ylay (S : Nat → Int32) (x y : Int32) : Nat → Int32 := ylo 40 0 (ylay0 S x y)
theorem ylay_z {S : Nat → Int32} {x y : Int32} {j : Nat} (h : j < 1540) (h1 : 3 < j) (h2 : j ≠ 329) (h3 : ∀ q, q < 40 → j ≠ 8 + 8 * q + 6) : ylay S x y j = 0 := by
  unfold ylay ylay0
  rw [ylo_ne _ _ _ (fun q _ h5 => h3 q (by omega)), yupd_ne h2, yupd_ne (by omega), yupd_ne (by omega), yupd_ne (by omega), yupd_ne (by omega)]
  exact if_pos h
theorem yN_lay {S : Nat → Int32} {n m : Nat} : yN (ylay S (yI n) (yI m)) (yD0 n m) := by
  have h0 : ∀ j, j < 8 → ylay S (yI n) (yI m) j = ylay0 S (yI n) (yI m) j := fun j hj => ylo_ne _ _ _ (fun q _ _ => by omega)
  have hz : ∀ p w, p < 40 → w < 8 → w ≠ 6 → ylay S (yI n) (yI m) (8 + 8 * p + w) = 0 := fun p w h1 h2 h3 => ylay_z (by omega) (by omega) (by omega) (fun q hq => by omega)
  refine ⟨?_, ?_, ?_, ?_, ?_, ?_, ?_, ?_, ?_, ?_, ?_, ?_, ?_, ?_, ?_, ?_, ?_, ?_, ?_⟩
  · rw [h0 0 (by decide)]; rfl
  · rw [h0 1 (by decide)]; rfl
  · rw [h0 2 (by decide)]; rfl
  · rw [h0 3 (by decide)]; rfl
  · rw [h0 4 (by decide)]; rfl
  · rw [h0 5 (by decide)]; rfl
  · rw [h0 6 (by decide)]; rfl
  · rw [h0 7 (by decide)]; rfl
  · intro p hp; exact hz p 0 hp (by decide) (by decide)
  · intro p hp; exact hz p 2 hp (by decide) (by decide)
  · intro p hp; exact hz p 3 hp (by decide) (by decide)
  · intro p hp; exact hz p 4 hp (by decide) (by decide)
  · intro p hp; exact hz p 5 hp (by decide) (by decide)
  · intro p hp; exact ylo_at _ _ _ (Nat.zero_le _) (by omega)
  · intro p hp; exact hz p 7 hp (by decide) (by decide)
  · intro p hp
    rw [hz p 1 hp (by decide) (by decide)]
    show 0 = yb ((0 : Nat).testBit p)
    rw [Nat.zero_testBit]
    rfl
  · intro g hg
    rw [yD0_f] at hg
    obtain rfl : g = 0 := by omega
    exact ylay_z (by decide) (by decide) (by decide) (fun q hq => by omega)
  · intro g hg
    rw [yD0_f] at hg
    obtain rfl : g = 0 := by omega
    show ylay S (yI n) (yI m) 329 = 9999
    unfold ylay ylay0
    rw [ylo_ne _ _ _ (fun q _ _ => by omega), yupd_same]
  · intro i hi
    rw [yD0_cn] at hi
    omega
section
variable {d a : Nat}
theorem l_128a (ha : yA 0 a) (hn : yn a = 1540) {x y : Int32} : ∀ m i (t : yT), i + m = 1540 → Gg d 128 2 [some (.ref a), some (.int x), some (.int y), some (.int (yI i))] [] (yemb t) 11 [some (.ref a), some (.int x), some (.int y), some (.int (yI 1540))] [] (yemb (t.sA a (fun j => if i ≤ j ∧ j < 1540 then 0 else t.A a j))) := by
  intro m
  induction m with
  | zero =>
    intro i t hi Q
    obtain rfl : i = 1540 := by omega
    have c1 : (1540 : Int32) ≤ yI 1540 := by decide
    have e : (fun j => if 1540 ≤ j ∧ j < 1540 then (0 : Int32) else t.A a j) = t.A a := by
      funext j
      rw [if_neg (by omega)]
    rw [e, ysA_self, s_128_2]
    simp only [s_128_0, s_128_1, s_128_3, s_128_4, s_128_5, s_128_6, s_128_7, s_128_8, s_128_9, s_128_10, s_128_12, s_128_13, s_128_14, s_128_15, s_128_16, s_128_17, s_128_18, s_128_19, s_128_20, s_128_21, s_128_22, s_128_23, s_128_24, s_128_25, s_128_26, s_128_27, s_128_28, s_128_29, s_128_30, s_128_31, s_128_32, s_128_33, s_128_34, s_128_35, s_128_36, s_128_37, s_128_38, s_128_39, s_128_40, s_128_41, s_128_42, s_128_43, s_128_44, s_128_45, c1, if_true, Gk_v, Gk_n, xcat_nil, xcat_i, xcat_r, xcat_l, xcat_d, Nat.zero_le, Nat.reduceAdd, Nat.reduceLeDiff, true_and, and_true, ykl_i, ykl_r, ykl_n, ykl_l]
  | succ m ih =>
    intro i t hi Q
    have c1 : ¬ (1540 : Int32) ≤ yI i := fun h => absurd ((yI_le (n := 1540) (by decide) (by omega)).mp h) (by omega)
    have i1 : yix (yI i) 1540 := yix_I (by omega) (by omega)
    have c2 : (yI i).toNatClampNeg = i := yI_clamp (by omega)
    have h7 : yI i + 1 = yI (i + 1) := yI_add
    have hih := ih (i + 1) (t.s1 a i 0) (by omega) Q
    have e : (t.s1 a i 0).sA a (fun j => if i + 1 ≤ j ∧ j < 1540 then 0 else (t.s1 a i 0).A a j) = t.sA a (fun j => if i ≤ j ∧ j < 1540 then 0 else t.A a j) := by
      unfold yT.s1
      rw [ysA_sA, ysA_same]
      congr 1
      funext j
      by_cases h : j = i
      · rw [if_neg (by omega), if_pos (by omega), h, yupd_same]
      · rw [yupd_ne h]
        by_cases h' : i + 1 ≤ j ∧ j < 1540
        · rw [if_pos h', if_pos (by omega)]
        · rw [if_neg h', if_neg (by omega)]
    rw [e] at hih
    rw [s_128_2]
    simp only [s_128_0, s_128_1, s_128_3, s_128_4, s_128_5, s_128_6, s_128_7, s_128_8, s_128_9, s_128_10, s_128_12, s_128_13, s_128_14, s_128_15, s_128_16, s_128_17, s_128_18, s_128_19, s_128_20, s_128_21, s_128_22, s_128_23, s_128_24, s_128_25, s_128_26, s_128_27, s_128_28, s_128_29, s_128_30, s_128_31, s_128_32, s_128_33, s_128_34, s_128_35, s_128_36, s_128_37, s_128_38, s_128_39, s_128_40, s_128_41, s_128_42, s_128_43, s_128_44, s_128_45, c1, if_false, ha, hn, i1, c2, h7, Gk_v, Gk_n, xcat_nil, xcat_i, xcat_r, xcat_l, xcat_d, Nat.zero_le, Nat.reduceAdd, Nat.reduceLeDiff, true_and, and_true, ykl_i, ykl_r, ykl_n, ykl_l]
    exact hih
theorem l_128b (ha : yA 0 a) (hn : yn a = 1540) {x y : Int32} : ∀ m p (t : yT), p + m = 40 → Ga (d + 1) 128 33 [some (.ref a), some (.int x), some (.int y), some (.int (yI p))] [] (yemb t) (.inl none) (yemb (t.sA a (ylo m p (t.A a)))) := by
  intro m
  induction m with
  | zero =>
    intro p t hp Q
    obtain rfl : p = 40 := by omega
    have c1 : (40 : Int32) ≤ yI 40 := by decide
    show _ ↔ Q (.inl none) (yemb (t.sA a (t.A a)))
    rw [ysA_self, s_128_33]
    simp only [s_128_0, s_128_1, s_128_3, s_128_4, s_128_5, s_128_6, s_128_7, s_128_8, s_128_9, s_128_10, s_128_12, s_128_13, s_128_14, s_128_15, s_128_16, s_128_17, s_128_18, s_128_19, s_128_20, s_128_21, s_128_22, s_128_23, s_128_24, s_128_25, s_128_26, s_128_27, s_128_28, s_128_29, s_128_30, s_128_31, s_128_32, s_128_34, s_128_35, s_128_36, s_128_37, s_128_38, s_128_39, s_128_40, s_128_41, s_128_42, s_128_43, s_128_44, s_128_45, c1, if_true, Gk_v, Gk_n, xcat_nil, xcat_i, xcat_r, xcat_l, xcat_d, Nat.zero_le, Nat.reduceAdd, Nat.reduceLeDiff, true_and, and_true, ykl_i, ykl_r, ykl_n, ykl_l]
  | succ m ih =>
    intro p t hp Q
    have c1 : ¬ (40 : Int32) ≤ yI p := fun h => absurd ((yI_le (n := 40) (by decide) (by omega)).mp h) (by omega)
    have e1 : yI (8 + 8 * p) + 6 = yI (8 + 8 * p + 6) := yI_add
    have i1 : yix (yI (8 + 8 * p + 6)) 1540 := yix_I (by omega) (by omega)
    have c2 : (yI (8 + 8 * p + 6)).toNatClampNeg = 8 + 8 * p + 6 := yI_clamp (by omega)
    have h7 : yI p + 1 = yI (p + 1) := yI_add
    have hih := ih (p + 1) (t.s1 a (8 + 8 * p + 6) (-1)) (by omega) Q
    have e : (t.s1 a (8 + 8 * p + 6) (-1)).sA a (ylo m (p + 1) ((t.s1 a (8 + 8 * p + 6) (-1)).A a)) = t.sA a (ylo (m + 1) p (t.A a)) := by
      unfold yT.s1
      rw [ysA_sA, ysA_same, ylo]
    rw [e] at hih
    rw [s_128_33]
    simp only [s_128_0, s_128_1, s_128_3, s_128_4, s_128_5, s_128_6, s_128_7, s_128_8, s_128_9, s_128_10, s_128_12, s_128_13, s_128_14, s_128_15, s_128_16, s_128_17, s_128_18, s_128_19, s_128_20, s_128_21, s_128_22, s_128_23, s_128_24, s_128_25, s_128_26, s_128_27, s_128_28, s_128_29, s_128_30, s_128_31, s_128_32, s_128_34, s_128_35, s_128_36, s_128_37, s_128_38, s_128_39, s_128_40, s_128_41, s_128_42, s_128_43, s_128_44, s_128_45, c1, if_false, m_160, e1, ha, hn, i1, c2, h7, Gk_v, Gk_n, xcat_nil, xcat_i, xcat_r, xcat_l, xcat_d, Nat.zero_le, Nat.reduceAdd, Nat.reduceLeDiff, true_and, and_true, ykl_i, ykl_r, ykl_n, ykl_l]
    exact hih
theorem m_128 (ha : yA 0 a) (hn : yn a = 1540) {x y : Int32} (t : yT) : Ra (d + 1) 128 [.ref a, .int x, .int y] (yemb t) (.inl none) (yemb (t.sA a (ylay (t.A a) x y))) := by
  intro Q
  have ga := l_128a (d := d + 1) ha hn (x := x) (y := y) 1540 0 t (Nat.zero_add _) Q
  have e0 : (fun j => if 0 ≤ j ∧ j < 1540 then (0 : Int32) else t.A a j) = fun j => if j < 1540 then 0 else t.A a j := by
    funext j
    by_cases h : j < 1540
    · rw [if_pos ⟨Nat.zero_le _, h⟩, if_pos h]
    · rw [if_neg (fun h' => h h'.2), if_neg h]
  rw [e0] at ga
  have i0 : yix 0 1540 := yix_I (n := 0) (by omega) (by omega)
  have i1 : yix 1 1540 := yix_I (n := 1) (by omega) (by omega)
  have i2 : yix 2 1540 := yix_I (n := 2) (by omega) (by omega)
  have i3 : yix 3 1540 := yix_I (n := 3) (by omega) (by omega)
  have i9 : yix 329 1540 := yix_I (n := 329) (by omega) (by omega)
  have c0 : (0 : Int32).toNatClampNeg = 0 := rfl
  have c1 : (1 : Int32).toNatClampNeg = 1 := rfl
  have c2 : (2 : Int32).toNatClampNeg = 2 := rfl
  have c3 : (3 : Int32).toNatClampNeg = 3 := rfl
  have c9 : (329 : Int32).toNatClampNeg = 329 := rfl
  have gb := l_128b (d := d) ha hn (x := x) (y := y) 40 0 (((((t.sA a (fun j => if j < 1540 then 0 else t.A a j)).s1 a 0 x).s1 a 1 y).s1 a 2 255).s1 a 3 1 |>.s1 a 329 9999) (Nat.zero_add _) Q
  have e : ((((((t.sA a (fun j => if j < 1540 then 0 else t.A a j)).s1 a 0 x).s1 a 1 y).s1 a 2 255).s1 a 3 1).s1 a 329 9999).sA a (ylo 40 0 (((((((t.sA a (fun j => if j < 1540 then 0 else t.A a j)).s1 a 0 x).s1 a 1 y).s1 a 2 255).s1 a 3 1).s1 a 329 9999).A a)) = t.sA a (ylay (t.A a) x y) := by
    unfold ylay ylay0
    simp only [yT.s1, ysA_sA, ysA_same]
  rw [e] at gb
  show G (d + 1) 128 0 [some (.ref a), some (.int x), some (.int y), none] [] (yemb t) Q ↔ _
  have start : G (d + 1) 128 0 [some (.ref a), some (.int x), some (.int y), none] [] (yemb t) Q ↔ G (d + 1) 128 2 [some (.ref a), some (.int x), some (.int y), some (.int (yI 0))] [] (yemb t) Q := by
    simp only [s_128_0, s_128_1, Gk_v, Gk_n, xcat_nil, xcat_i, xcat_r, xcat_l, xcat_d, Nat.zero_le, Nat.reduceAdd, Nat.reduceLeDiff, true_and, and_true, ykl_i, ykl_r, ykl_n, ykl_l]
    exact Iff.rfl
  refine start.trans (ga.trans ?_)
  generalize t.sA a (fun j => if j < 1540 then 0 else t.A a j) = w at *
  rw [s_128_11]
  simp only [s_128_0, s_128_1, s_128_3, s_128_4, s_128_5, s_128_6, s_128_7, s_128_8, s_128_9, s_128_10, s_128_12, s_128_13, s_128_14, s_128_15, s_128_16, s_128_17, s_128_18, s_128_19, s_128_20, s_128_21, s_128_22, s_128_23, s_128_24, s_128_25, s_128_26, s_128_27, s_128_28, s_128_29, s_128_30, s_128_31, s_128_32, s_128_34, s_128_35, s_128_36, s_128_37, s_128_38, s_128_39, s_128_40, s_128_41, s_128_42, s_128_43, s_128_44, s_128_45, ha, hn, i0, i1, i2, i3, i9, c0, c1, c2, c3, c9, Gk_v, Gk_n, xcat_nil, xcat_i, xcat_r, xcat_l, xcat_d, Nat.zero_le, Nat.reduceAdd, Nat.reduceLeDiff, true_and, and_true, ykl_i, ykl_r, ykl_n, ykl_l]
  exact gb
end
def ybeg0 (t : yT) (n : Int32) : yT := (((((((((t.s1 160 2 0).s1 160 3 n).s1 160 4 0).s1 160 5 0).s1 160 6 (-1)).s1 160 18 0).s1 160 19 0).sL 160 20 0).sL 160 21 0).s1 160 23 0
theorem m_149 {d : Nat} {t : yT} {n : Int32} : Ra d 149 [.ref 160, .int n] (yemb t) (.inl none) (yemb (ybeg0 t n)) := by
  intro Q
  show G d 149 0 [some (.ref 160), some (.int n)] [] (yemb t) Q ↔ _
  simp only [s_149_0, s_149_1, s_149_2, s_149_3, s_149_4, s_149_5, s_149_6, s_149_7, s_149_8, s_149_9, s_149_10, s_149_11, s_149_12, s_149_13, s_149_14, s_149_15, s_149_16, s_149_17, s_149_18, s_149_19, s_149_20, s_149_21, s_149_22, s_149_23, s_149_24, s_149_25, s_149_26, s_149_27, s_149_28, s_149_29, s_149_30, yO_160, Gk_v, Gk_n, xcat_nil, xcat_i, xcat_r, xcat_l, xcat_d, Nat.zero_le, Nat.reduceAdd, Nat.reduceLeDiff, true_and, and_true, ykl_i, ykl_r, ykl_n, ykl_l]
  exact Iff.rfl
theorem ybeg0_A {t : yT} {n : Int32} : (ybeg0 t n).A 160 = upd (upd (upd (upd (upd (upd (upd (upd (t.A 160) 2 0) 3 n) 4 0) 5 0) 6 (-1)) 18 0) 19 0) 23 0 := by
  unfold ybeg0
  rw [ys1_upd, ysL_A, ysL_A, ys1_upd, ys1_upd, ys1_upd, ys1_upd, ys1_upd, ys1_upd, ys1_upd]
theorem ybeg0_F {t : yT} {n : Int32} : yFr (fun a => a = 160) t (ybeg0 t n) := by
  have s : ∀ (w : yT) (j : Nat) (v : Int32), yFr (fun a => a = 160) t w → yFr (fun a => a = 160) t (w.s1 160 j v) := fun w j v F => F.trans (yFr_s1 (P := fun a => a = 160) rfl) (fun a h => h.elim id id)
  have l : ∀ (w : yT) (j : Nat) (v : Int64), yFr (fun a => a = 160) t w → yFr (fun a => a = 160) t (w.sL 160 j v) := fun w j v F => F.trans (yFr_sL (P := fun a => a = 160) rfl) (fun a h => h.elim id id)
  exact s _ _ _ (l _ _ _ (l _ _ _ (s _ _ _ (s _ _ _ (s _ _ _ (s _ _ _ (s _ _ _ (s _ _ _ (s _ _ _ yFr.rfl')))))))))

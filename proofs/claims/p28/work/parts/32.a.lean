theorem m_64 {d : Nat} {s : Int64} {j : Int32} {σ : xS} {Q : xR → xS → Prop} : Cl d 64 [.long s, .int j] σ Q ↔ Q (.inl (some (.int (yb (yin s j))))) σ := by
  show G d 64 0 [some (.long s), none, some (.int j)] [] σ Q ↔ _
  simp only [s_64_0, s_64_1, s_64_2, s_64_3, s_64_4, s_64_5, s_64_6, s_64_7, s_64_8, s_64_9, s_64_10, s_64_11, lg_cmp0, ybo_0, ybo_1, true_and]
  unfold yb yin
  by_cases h : (s.toUInt64 >>> (j.toInt64.toUInt64 &&& Int64.toUInt64 63)).toInt64 &&& 1 = 0
  · simp [h]
  · simp [h]
theorem m_34 {d : Nat} {o : Nat} {j : Int32} {t : yT} {Q : xR → xS → Prop} (ho : yisO 4 o) : Cl (d + 1) 34 [.ref o, .int j] (yemb t) Q ↔ Q (.inl (some (.int (yb (yin (t.L o 15) j))))) (yemb t) := by
  show G (d + 1) 34 0 [some (.ref o), some (.int j)] [] (yemb t) Q ↔ _
  simp only [s_34_0, s_34_1, s_34_2, s_34_3, s_34_4, ho, m_64, Gk_v, ybo_b, xcat_nil, Nat.zero_le, true_and, Nat.reduceAdd]
theorem m_32 {d : Nat} {o : Nat} {j : Int32} {t : yT} {Q : xR → xS → Prop} (ho : yisO 4 o) : Cl d 32 [.ref o, .int j] (yemb t) Q ↔ Q (.inl (some (.int (yb (decide (0 ≤ j ∧ j < t.A o 9)))))) (yemb t) := by
  show G d 32 0 [some (.ref o), some (.int j)] [] (yemb t) Q ↔ _
  simp only [s_32_0, s_32_1, s_32_2, s_32_3, s_32_4, s_32_5, s_32_6, s_32_7, s_32_8, s_32_9, ho, ybo_0, ybo_1, true_and]
  by_cases h1 : j < 0
  · have h2 : ¬ 0 ≤ j := Int32.not_le.mpr h1
    simp [h1, h2, yb]
  · have h2 : 0 ≤ j := Int32.not_lt.mp h1
    by_cases h3 : t.A o 9 ≤ j
    · have h4 := Int32.not_lt.mpr h3
      simp [h1, h2, h3, h4, yb]
    · have h4 := Int32.not_le.mp h3
      simp [h1, h2, h3, h4, yb]
/-! ===== strips: loops over feeds and pixels ===== -/
def yfeedF (fp : Nat → Int32) (j : Int32) : Nat → Nat → Int32 → Int32
  | 0, _, a => a
  | n + 1, i, a => yfeedF fp j n (i + 1) (if fp i ≤ j then yI i else a)
theorem l_42 {d o f : Nat} {j : Int32} {t : yT} {Q : xR → xS → Prop} (ho : yisO 4 o) (hf : t.A o 12 = yI f) (hf6 : f ≤ 6) : ∀ n i a, i + n = f → (G d 42 4 [some (.ref o), some (.int j), some (.int a), some (.int (yI i))] [] (yemb t) Q ↔ Q (.inl (some (.int (yfeedF (t.A (o + 8)) j n i a)))) (yemb t)) := by
  intro n
  induction n with
  | zero =>
    intro i a hi
    have h1 : yI f ≤ yI i := (yI_le (by omega) (by omega)).mpr (by omega)
    rw [s_42_4]
    simp only [s_42_0, s_42_1, s_42_2, s_42_3, s_42_5, s_42_6, s_42_7, s_42_8, s_42_9, s_42_10, s_42_11, s_42_12, s_42_13, s_42_14, s_42_15, s_42_16, s_42_17, s_42_18, s_42_19, ho, hf, h1, if_true, yfeedF]
  | succ n ih =>
    intro i a hi
    have h1 : ¬ yI f ≤ yI i := fun h => absurd ((yI_le (by omega) (by omega)).mp h) (by omega)
    have h2 : yix (yI i) 6 := yix_I (by omega) (by omega)
    have h3 : (yI i).toNatClampNeg = i := yI_clamp (by omega)
    have h4 : yI i + 1 = yI (i + 1) := yI_add
    rw [s_42_4]
    simp only [s_42_0, s_42_1, s_42_2, s_42_3, s_42_5, s_42_6, s_42_7, s_42_8, s_42_9, s_42_10, s_42_11, s_42_12, s_42_13, s_42_14, s_42_15, s_42_16, s_42_17, s_42_18, s_42_19, ho, hf, h1, if_false, yAs_8 ho, yns_8 ho, h2, h3, true_and, ykl_i, h4, ih (i + 1) _ (by omega)]
    simp only [yfeedF]
    by_cases h : t.A (o + 8) i ≤ j
    · have h' : ¬ j < t.A (o + 8) i := Int32.not_lt.mpr h
      simp only [h, h', if_true, if_false]
    · have h' : j < t.A (o + 8) i := Int32.not_le.mp h
      simp only [h, h', if_true, if_false]
theorem m_42 {d o f : Nat} {j : Int32} {t : yT} {Q : xR → xS → Prop} (ho : yisO 4 o) (hf : t.A o 12 = yI f) (hf6 : f ≤ 6) (hf1 : 1 ≤ f) : Cl d 42 [.ref o, .int j] (yemb t) Q ↔ Q (.inl (some (.int (yfeedF (t.A (o + 8)) j (f - 1) 1 0)))) (yemb t) := by
  show G d 42 0 [some (.ref o), some (.int j), none, none] [] (yemb t) Q ↔ _
  simp only [s_42_0, s_42_1, s_42_2, s_42_3, ykl_i]
  exact l_42 ho hf hf6 (f - 1) 1 0 (by omega)
/-! ===== what a strip is ===== -/
def yfold {α : Type} (h : Nat → α → α) : Nat → Nat → α → α
  | 0, _, a => a
  | n + 1, i, a => yfold h n (i + 1) (h i a)
theorem yfold_congr {α : Type} {h h' : Nat → α → α} : ∀ (n i : Nat) (a : α), (∀ j b, i ≤ j → j < i + n → h j b = h' j b) → yfold h n i a = yfold h' n i a := by
  intro n
  induction n with
  | zero => intro i a _; rfl
  | succ n ih =>
    intro i a hh
    show yfold h n (i + 1) (h i a) = yfold h' n (i + 1) (h' i a)
    rw [hh i a (Nat.le_refl _) (by omega)]
    exact ih (i + 1) _ (fun j b h1 h2 => hh j b (by omega) (by omega))
def ylast (D : yD) (g : Nat) : Nat := if g + 1 < D.f then D.fp (g + 1) - 1 else D.n - 1
theorem ylast_lt {D : yD} (h : yDok D) {g : Nat} (hg : g < D.f) : ylast D g < D.n := by
  unfold ylast
  have := h.n1
  split
  · rename_i h1
    have := h.fpn (g + 1) h1
    omega
  · omega
theorem yI_sub1 {n : Nat} (h : 1 ≤ n) : yI n - 1 = yI (n - 1) := by
  have : yI n = yI (n - 1) + 1 := by
    show yI n = yI (n - 1) + yI 1
    rw [yI_add]
    congr 1
    omega
  rw [this, Int32.add_sub_cancel]
def ylit (D : yD) (p : Nat) : Bool := (D.kd p == 0 || D.kd p == 3) && !D.bp p
def ycur (un c : Int32) : Int32 := (((c >>> ((16 : Int32) &&& 31)) &&& 255) + ((c >>> ((8 : Int32) &&& 31)) &&& 255) + (c &&& 255)) * un / 765
/-- what a feed bears -/
def yload (D : yD) (g : Nat) : Int32 := yfold (fun p a => if ylit D p then a + ycur D.un (D.tk p) else a) (ylast D g + 1 - D.fp g) (D.fp g) 0
section
variable {d o : Nat} {t : yT} {D : yD} {Q : xR → xS → Prop}
theorem m_43 (W : yW t o D) {g : Nat} (hg : g < D.f) : Cl d 43 [.ref o, .int (yI g)] (yemb t) Q ↔ Q (.inl (some (.int (yI (ylast D g))))) (yemb t) := by
  have hf6 := W.ok.f6
  have hn1 := W.ok.n1
  have hn40 := W.ok.n40
  have e1 : yI g + 1 = yI (g + 1) := yI_add
  show G d 43 0 [some (.ref o), some (.int (yI g))] [] (yemb t) Q ↔ _
  by_cases h : g + 1 < D.f
  · have h1 : ¬ yI D.f ≤ yI (g + 1) := fun h' => absurd ((yI_le (by omega) (by omega)).mp h') (by omega)
    have h2 : yix (yI (g + 1)) 6 := yix_I (by omega) (by omega)
    have h3 : (yI (g + 1)).toNatClampNeg = g + 1 := yI_clamp (by omega)
    have h5 := W.ok.fpm g h
    simp only [s_43_0, s_43_1, s_43_2, s_43_3, s_43_4, s_43_5, s_43_6, s_43_7, s_43_8, s_43_9, s_43_10, s_43_11, s_43_12, s_43_13, s_43_14, s_43_15, s_43_16, s_43_17, s_43_18, s_43_19, W.oo, W.f, e1, h1, if_false, yAs_8 W.oo, yns_8 W.oo, h2, h3, true_and, W.fp (g + 1) (by omega), yI_sub1 (show 1 ≤ D.fp (g + 1) by omega)]
    rw [ylast, if_pos h]
  · have h1 : yI D.f ≤ yI (g + 1) := (yI_le (by omega) (by omega)).mpr (by omega)
    simp only [s_43_0, s_43_1, s_43_2, s_43_3, s_43_4, s_43_5, s_43_6, s_43_7, s_43_8, s_43_9, s_43_10, s_43_11, s_43_12, s_43_13, s_43_14, s_43_15, s_43_16, s_43_17, s_43_18, s_43_19, W.oo, W.f, e1, h1, if_true, W.n, yI_sub1 hn1]
    rw [ylast, if_neg h]
theorem m_46 (W : yW t o D) {p : Nat} (hp : p < 40) : Cl (d + 2) 46 [.ref o, .int (yI p)] (yemb t) Q ↔ Q (.inl (some (.int (yb (ylit D p))))) (yemb t) := by
  have h2 : yix (yI p) 40 := yix_I (by omega) (by omega)
  have h3 : (yI p).toNatClampNeg = p := yI_clamp (by omega)
  show G (d + 2) 46 0 [some (.ref o), some (.int (yI p))] [] (yemb t) Q ↔ _
  simp only [s_46_0, s_46_1, s_46_2, s_46_3, s_46_4, s_46_5, s_46_6, s_46_7, s_46_8, s_46_9, s_46_10, s_46_11, s_46_12, s_46_13, s_46_14, s_46_15, s_46_16, s_46_17, s_46_18, s_46_19, W.oo, yAs_3 W.oo, yns_3 W.oo, h2, h3, true_and, W.kd p hp, m_64, ybo_b, W.bp p hp, Gk_v, xcat_nil, Nat.zero_le, Nat.reduceAdd, ybo_0, ybo_1]
  unfold ylit
  by_cases h0 : D.kd p = 0
  · cases hb : D.bp p <;> simp [h0, hb, yb]
  · by_cases h1 : D.kd p = 3
    · cases hb : D.bp p <;> simp [h0, h1, hb, yb]
    · cases hb : D.bp p <;> simp [h0, h1, hb, yb]
theorem m_47 (W : yW t o D) {c : Int32} : Cl d 47 [.ref o, .int c] (yemb t) Q ↔ Q (.inl (some (.int (ycur D.un c)))) (yemb t) := by
  show G d 47 0 [some (.ref o), some (.int c)] [] (yemb t) Q ↔ _
  have h : ¬ (765 : Int32) = 0 := by decide
  simp only [s_47_0, s_47_1, s_47_2, s_47_3, s_47_4, s_47_5, s_47_6, s_47_7, s_47_8, s_47_9, s_47_10, s_47_11, s_47_12, s_47_13, s_47_14, s_47_15, s_47_16, s_47_17, s_47_18, s_47_19, s_47_20, W.oo, W.un, h, not_false_eq_true]
  rfl
end
/-! ===== strips: loads, colors, what is wrong ===== -/
def yout (D : yD) (p : Nat) : Bool := D.kd p == 1 || D.kd p == 2
def ywrong (D : yD) (p : Nat) : Bool := !D.bp p && (yout D p || D.tk p != D.du p)
def ywrongs (D : yD) : Int32 := yfold (fun p a => if ywrong D p then a + 1 else a) D.n 0 0
def yrgb (r g b : Int32) : Int32 := (r <<< ((16 : Int32) &&& 31)) ||| (g <<< ((8 : Int32) &&& 31)) ||| b
def yshare (c lim ld : Int32) : Int32 := if ld ≤ lim ∨ ld ≤ 0 then c else yrgb (((c >>> ((16 : Int32) &&& 31)) &&& 255) * lim / ld) (((c >>> ((8 : Int32) &&& 31)) &&& 255) * lim / ld) ((c &&& 255) * lim / ld)
def ysumlim (D : yD) : Int32 := yfold (fun g a => a + D.fl g) D.f 0 0
theorem ifb {b : Bool} {α : Sort _} {x y : α} : (if yb b = 0 then x else y) = if b = true then y else x := by
  cases b <;> rfl
theorem ifbn {b : Bool} {α : Sort _} {x y : α} : (if yb b ≠ 0 then x else y) = if b = true then x else y := by
  cases b <;> rfl
section
variable {d o : Nat} {t : yT} {D : yD} {Q : xR → xS → Prop}
theorem l_44 (W : yW t o D) {g : Nat} (hg : g < D.f) : ∀ n p a, p + n = ylast D g + 1 → (G (d + 3) 44 7 [some (.ref o), some (.int (yI g)), some (.int a), some (.int (yI p))] [] (yemb t) Q ↔ Q (.inl (some (.int (yfold (fun p a => if ylit D p then a + ycur D.un (D.tk p) else a) n p a)))) (yemb t)) := by
  have hn40 := W.ok.n40
  have hl := ylast_lt W.ok hg
  intro n
  induction n with
  | zero =>
    intro p a hp
    have h1 : yI (ylast D g) < yI p := (yI_lt (by omega) (by omega)).mpr (by omega)
    rw [s_44_7]
    simp only [s_44_0, s_44_1, s_44_2, s_44_3, s_44_4, s_44_5, s_44_6, s_44_8, s_44_9, s_44_10, s_44_11, s_44_12, s_44_13, s_44_14, s_44_15, s_44_16, s_44_17, s_44_18, s_44_19, s_44_20, s_44_21, s_44_22, s_44_23, s_44_24, s_44_25, s_44_26, s_44_27, s_44_28, W.oo, m_43 W hg, Gk_v, xcat_nil, xcat_i, Nat.reduceAdd, Nat.reduceLeDiff, true_and, h1, if_true, yfold]
  | succ n ih =>
    intro p a hp
    have h1 : ¬ yI (ylast D g) < yI p := fun h => absurd ((yI_lt (by omega) (by omega)).mp h) (by omega)
    have h2 : yix (yI p) 40 := yix_I (by omega) (by omega)
    have h3 : (yI p).toNatClampNeg = p := yI_clamp (by omega)
    have h4 : yI p + 1 = yI (p + 1) := yI_add
    rw [s_44_7]
    simp only [s_44_0, s_44_1, s_44_2, s_44_3, s_44_4, s_44_5, s_44_6, s_44_8, s_44_9, s_44_10, s_44_11, s_44_12, s_44_13, s_44_14, s_44_15, s_44_16, s_44_17, s_44_18, s_44_19, s_44_20, s_44_21, s_44_22, s_44_23, s_44_24, s_44_25, s_44_26, s_44_27, s_44_28, W.oo, m_43 W hg, m_46 W (show p < 40 by omega), m_47 W, Gk_v, xcat_nil, xcat_i, xcat_r, Nat.reduceAdd, Nat.reduceLeDiff, true_and, h1, if_false, ifb, ykl_i, h4, yAs_6 W.oo, yns_6 W.oo, h2, h3, W.tk p (by omega), ih (p + 1) _ (by omega)]
    simp only [yfold]
    cases ylit D p <;> simp
theorem m_44 (W : yW t o D) {g : Nat} (hg : g < D.f) : Cl (d + 3) 44 [.ref o, .int (yI g)] (yemb t) Q ↔ Q (.inl (some (.int (yload D g)))) (yemb t) := by
  have hf6 := W.ok.f6
  have hfl : D.fp g ≤ ylast D g := by
    unfold ylast
    split
    · rename_i h
      have := W.ok.fpm g h
      omega
    · have := W.ok.fpn g hg
      omega
  have h2 : yix (yI g) 6 := yix_I (by omega) (by omega)
  have h3 : (yI g).toNatClampNeg = g := yI_clamp (by omega)
  show G (d + 3) 44 0 [some (.ref o), some (.int (yI g)), none, none] [] (yemb t) Q ↔ _
  simp only [s_44_0, s_44_1, s_44_2, s_44_3, s_44_4, s_44_5, s_44_6, ykl_i, W.oo, yAs_8 W.oo, yns_8 W.oo, h2, h3, true_and, W.fp g (by omega)]
  exact l_44 W hg _ _ _ (by omega)
theorem m_58 (W : yW t o D) {p : Nat} (hp : p < 40) : Cl d 58 [.ref o, .int (yI p)] (yemb t) Q ↔ Q (.inl (some (.int (yb (yout D p))))) (yemb t) := by
  have h2 : yix (yI p) 40 := yix_I (by omega) (by omega)
  have h3 : (yI p).toNatClampNeg = p := yI_clamp (by omega)
  show G d 58 0 [some (.ref o), some (.int (yI p))] [] (yemb t) Q ↔ _
  simp only [s_58_0, s_58_1, s_58_2, s_58_3, s_58_4, s_58_5, s_58_6, s_58_7, s_58_8, s_58_9, s_58_10, s_58_11, s_58_12, s_58_13, s_58_14, s_58_15, W.oo, yAs_3 W.oo, yns_3 W.oo, h2, h3, true_and, W.kd p hp, ybo_0, ybo_1]
  unfold yout
  by_cases h0 : D.kd p = 1
  · simp [h0, yb]
  · by_cases h1 : D.kd p = 2
    · simp [h1, yb]
    · simp [h0, h1, yb]
theorem l_59 (W : yW t o D) : ∀ n p a, p + n = D.n → (G (d + 3) 59 4 [some (.ref o), some (.int a), some (.int (yI p))] [] (yemb t) Q ↔ Q (.inl (some (.int (yfold (fun p a => if ywrong D p then a + 1 else a) n p a)))) (yemb t)) := by
  have hn40 := W.ok.n40
  intro n
  induction n with
  | zero =>
    intro p a hp
    have h1 : yI D.n ≤ yI p := (yI_le (by omega) (by omega)).mpr (by omega)
    rw [s_59_4]
    simp only [s_59_0, s_59_1, s_59_2, s_59_3, s_59_5, s_59_6, s_59_7, s_59_8, s_59_9, s_59_10, s_59_11, s_59_12, s_59_13, s_59_14, s_59_15, s_59_16, s_59_17, s_59_18, s_59_19, s_59_20, s_59_21, s_59_22, s_59_23, s_59_24, s_59_25, s_59_26, s_59_27, s_59_28, s_59_29, W.oo, W.n, h1, if_true, yfold]
  | succ n ih =>
    intro p a hp
    have h1 : ¬ yI D.n ≤ yI p := fun h => absurd ((yI_le (by omega) (by omega)).mp h) (by omega)
    have h2 : yix (yI p) 40 := yix_I (by omega) (by omega)
    have h3 : (yI p).toNatClampNeg = p := yI_clamp (by omega)
    have h4 : yI p + 1 = yI (p + 1) := yI_add
    rw [s_59_4]
    simp only [s_59_0, s_59_1, s_59_2, s_59_3, s_59_5, s_59_6, s_59_7, s_59_8, s_59_9, s_59_10, s_59_11, s_59_12, s_59_13, s_59_14, s_59_15, s_59_16, s_59_17, s_59_18, s_59_19, s_59_20, s_59_21, s_59_22, s_59_23, s_59_24, s_59_25, s_59_26, s_59_27, s_59_28, s_59_29, W.oo, W.n, m_34 W.oo, W.bp p (show p < 40 by omega), m_58 W (show p < 40 by omega), Gk_v, xcat_nil, Nat.zero_le, Nat.reduceAdd, true_and, h1, if_false, ifbn, ykl_i, ykl_r, h4, yAs_6 W.oo, yns_6 W.oo, yAs_2 W.oo, yns_2 W.oo, h2, h3, W.tk p (show p < 40 by omega), W.du p (show p < 40 by omega), ih (p + 1) _ (show p + 1 + n = D.n by omega)]
    simp only [yfold]
    have hw : ywrong D p = (!D.bp p && (yout D p || D.tk p != D.du p)) := rfl
    rw [hw]
    cases hb : D.bp p <;> cases hq : yout D p <;> by_cases h : D.tk p = D.du p <;> simp [h]
theorem m_59 (W : yW t o D) : Cl (d + 3) 59 [.ref o] (yemb t) Q ↔ Q (.inl (some (.int (ywrongs D)))) (yemb t) := by
  show G (d + 3) 59 0 [some (.ref o), none, none] [] (yemb t) Q ↔ _
  simp only [s_59_0, s_59_1, s_59_2, s_59_3, ykl_i, ykl_r]
  exact l_59 W D.n 0 0 (Nat.zero_add _)
end
/-! ===== strips: shared colors and the current ===== -/
theorem m_121 {d : Nat} {r g b : Int32} {σ : xS} {Q : xR → xS → Prop} : Cl d 121 [.int r, .int g, .int b] σ Q ↔ Q (.inl (some (.int (yrgb r g b)))) σ := by
  show G d 121 0 [some (.int r), some (.int g), some (.int b)] [] σ Q ↔ _
  simp only [s_121_0, s_121_1, s_121_2, s_121_3, s_121_4, s_121_5, s_121_6, s_121_7, s_121_8, s_121_9]
  rfl
theorem m_49 {d : Nat} {c lim ld : Int32} {σ : xS} {Q : xR → xS → Prop} : Cl (d + 1) 49 [.int c, .int lim, .int ld] σ Q ↔ Q (.inl (some (.int (yshare c lim ld)))) σ := by
  show G (d + 1) 49 0 [some (.int c), some (.int lim), some (.int ld), none, none, none] [] σ Q ↔ _
  unfold yshare
  by_cases h1 : ld ≤ lim
  · simp only [s_49_0, s_49_1, s_49_2, s_49_3, s_49_4, s_49_5, s_49_6, s_49_7, s_49_8, s_49_9, s_49_10, s_49_11, s_49_12, s_49_13, s_49_14, s_49_15, s_49_16, s_49_17, s_49_18, s_49_19, s_49_20, s_49_21, s_49_22, s_49_23, s_49_24, s_49_25, s_49_26, s_49_27, s_49_28, s_49_29, s_49_30, s_49_31, s_49_32, s_49_33, s_49_34, s_49_35, s_49_36, s_49_37, s_49_38, s_49_39, h1, if_true, true_or]
  · by_cases h2 : 0 < ld
    · have h3 : ¬ ld ≤ 0 := Int32.not_le.mpr h2
      have h4 : ¬ ld = 0 := by
        intro h
        subst h
        exact absurd h2 (by decide)
      simp only [s_49_0, s_49_1, s_49_2, s_49_3, s_49_4, s_49_5, s_49_6, s_49_7, s_49_8, s_49_9, s_49_10, s_49_11, s_49_12, s_49_13, s_49_14, s_49_15, s_49_16, s_49_17, s_49_18, s_49_19, s_49_20, s_49_21, s_49_22, s_49_23, s_49_24, s_49_25, s_49_26, s_49_27, s_49_28, s_49_29, s_49_30, s_49_31, s_49_32, s_49_33, s_49_34, s_49_35, s_49_36, s_49_37, s_49_38, s_49_39, h1, h2, h3, h4, if_true, if_false, or_self, not_false_eq_true, ykl_i, m_121, Gk_v, xcat_nil, Nat.zero_le, Nat.reduceAdd, true_and]
    · have h3 : ld ≤ 0 := Int32.not_lt.mp h2
      simp only [s_49_0, s_49_1, s_49_2, s_49_3, s_49_4, s_49_5, s_49_6, s_49_7, s_49_8, s_49_9, s_49_10, s_49_11, s_49_12, s_49_13, s_49_14, s_49_15, s_49_16, s_49_17, s_49_18, s_49_19, s_49_20, s_49_21, s_49_22, s_49_23, s_49_24, s_49_25, s_49_26, s_49_27, s_49_28, s_49_29, s_49_30, s_49_31, s_49_32, s_49_33, s_49_34, s_49_35, s_49_36, s_49_37, s_49_38, s_49_39, h1, h2, h3, if_true, if_false, or_true]
section
variable {d o : Nat} {t : yT} {D : yD} {Q : xR → xS → Prop}
def yflow (D : yD) (g : Nat) (a : Int32) : Int32 := yfold (fun p a => if ylit D p then a + ycur D.un (yshare (D.tk p) (D.fl g) (yload D g)) else a) (ylast D g + 1 - D.fp g) (D.fp g) a
def ycurrent (D : yD) : Int32 := yfold (fun g a => yflow D g a) D.f 0 0
theorem yfp_last (h : yDok D) {g : Nat} (hg : g < D.f) : D.fp g ≤ ylast D g := by
  unfold ylast
  split
  · rename_i h1
    have := h.fpm g h1
    omega
  · have := h.fpn g hg
    omega
theorem l_50i (W : yW t o D) {g : Nat} (hg : g < D.f) : ∀ n p a, p + n = ylast D g + 1 → (G (d + 4) 50 17 [some (.ref o), some (.int a), some (.int (yI g)), some (.int (yload D g)), some (.int (yI p))] [] (yemb t) Q ↔ G (d + 4) 50 43 [some (.ref o), some (.int (yfold (fun p a => if ylit D p then a + ycur D.un (yshare (D.tk p) (D.fl g) (yload D g)) else a) n p a)), some (.int (yI g)), some (.int (yload D g)), some (.int (yI (p + n)))] [] (yemb t) Q) := by
  have hn40 := W.ok.n40
  have hf6 := W.ok.f6
  have hl := ylast_lt W.ok hg
  have h5 : yix (yI g) 6 := yix_I (by omega) (by omega)
  have h6 : (yI g).toNatClampNeg = g := yI_clamp (by omega)
  intro n
  induction n with
  | zero =>
    intro p a hp
    have h1 : yI (ylast D g) < yI p := (yI_lt (by omega) (by omega)).mpr (by omega)
    rw [s_50_17]
    simp only [s_50_0, s_50_1, s_50_2, s_50_3, s_50_4, s_50_5, s_50_6, s_50_7, s_50_8, s_50_9, s_50_10, s_50_11, s_50_12, s_50_13, s_50_14, s_50_15, s_50_16, s_50_18, s_50_19, s_50_20, s_50_21, s_50_22, s_50_23, s_50_24, s_50_25, s_50_26, s_50_27, s_50_28, s_50_29, s_50_30, s_50_31, s_50_32, s_50_33, s_50_34, s_50_35, s_50_36, s_50_37, s_50_38, s_50_39, s_50_40, s_50_41, s_50_42, s_50_44, s_50_45, s_50_46, W.oo, m_43 W hg, Gk_v, xcat_nil, xcat_i, Nat.reduceAdd, Nat.reduceLeDiff, true_and, h1, if_true, yfold, Nat.add_zero]
  | succ n ih =>
    intro p a hp
    have h1 : ¬ yI (ylast D g) < yI p := fun h => absurd ((yI_lt (by omega) (by omega)).mp h) (by omega)
    have h2 : yix (yI p) 40 := yix_I (by omega) (by omega)
    have h3 : (yI p).toNatClampNeg = p := yI_clamp (by omega)
    have h4 : yI p + 1 = yI (p + 1) := yI_add
    rw [s_50_17]
    simp only [s_50_0, s_50_1, s_50_2, s_50_3, s_50_4, s_50_5, s_50_6, s_50_7, s_50_8, s_50_9, s_50_10, s_50_11, s_50_12, s_50_13, s_50_14, s_50_15, s_50_16, s_50_18, s_50_19, s_50_20, s_50_21, s_50_22, s_50_23, s_50_24, s_50_25, s_50_26, s_50_27, s_50_28, s_50_29, s_50_30, s_50_31, s_50_32, s_50_33, s_50_34, s_50_35, s_50_36, s_50_37, s_50_38, s_50_39, s_50_40, s_50_41, s_50_42, s_50_44, s_50_45, s_50_46, W.oo, m_43 W hg, m_46 W (show p < 40 by omega), m_47 W, m_49, Gk_v, xcat_nil, xcat_i, xcat_r, Nat.reduceAdd, Nat.reduceLeDiff, true_and, h1, if_false, ifb, ykl_i, ykl_r, h4, yAs_6 W.oo, yns_6 W.oo, yAs_9 W.oo, yns_9 W.oo, h2, h3, h5, h6, W.tk p (by omega), W.fl g (by omega), ih (p + 1) _ (by omega)]
    simp only [yfold, show p + 1 + n = p + (n + 1) by omega]
    cases hb : ylit D p <;> simp
theorem l_50 (W : yW t o D) : ∀ n g a l3 l4, g + n = D.f → (G (d + 4) 50 4 [some (.ref o), some (.int a), some (.int (yI g)), l3, l4] [] (yemb t) Q ↔ Q (.inl (some (.int (yfold (fun g a => yflow D g a) n g a)))) (yemb t)) := by
  have hn40 := W.ok.n40
  have hf6 := W.ok.f6
  intro n
  induction n with
  | zero =>
    intro g a l3 l4 hg
    have h1 : yI D.f ≤ yI g := (yI_le (by omega) (by omega)).mpr (by omega)
    rw [s_50_4]
    simp only [s_50_0, s_50_1, s_50_2, s_50_3, s_50_5, s_50_6, s_50_7, s_50_8, s_50_9, s_50_10, s_50_11, s_50_12, s_50_13, s_50_14, s_50_15, s_50_16, s_50_17, s_50_18, s_50_19, s_50_20, s_50_21, s_50_22, s_50_23, s_50_24, s_50_25, s_50_26, s_50_27, s_50_28, s_50_29, s_50_30, s_50_31, s_50_32, s_50_33, s_50_34, s_50_35, s_50_36, s_50_37, s_50_38, s_50_39, s_50_40, s_50_41, s_50_42, s_50_43, s_50_44, s_50_45, s_50_46, W.oo, W.f, h1, if_true, yfold]
  | succ n ih =>
    intro g a l3 l4 hg
    have hgf : g < D.f := by omega
    have h1 : ¬ yI D.f ≤ yI g := fun h => absurd ((yI_le (by omega) (by omega)).mp h) (by omega)
    have h5 : yix (yI g) 6 := yix_I (by omega) (by omega)
    have h6 : (yI g).toNatClampNeg = g := yI_clamp (by omega)
    have h4 : yI g + 1 = yI (g + 1) := yI_add
    have hfl := yfp_last W.ok hgf
    rw [s_50_4]
    simp only [s_50_0, s_50_1, s_50_2, s_50_3, s_50_5, s_50_6, s_50_7, s_50_8, s_50_9, s_50_10, s_50_11, s_50_12, s_50_13, s_50_14, s_50_15, s_50_16, s_50_18, s_50_19, s_50_20, s_50_21, s_50_22, s_50_23, s_50_24, s_50_25, s_50_26, s_50_27, s_50_28, s_50_29, s_50_30, s_50_31, s_50_32, s_50_33, s_50_34, s_50_35, s_50_36, s_50_37, s_50_38, s_50_39, s_50_40, s_50_41, s_50_42, s_50_43, s_50_44, s_50_45, s_50_46, W.oo, W.f, h1, if_false, m_44 W hgf, Gk_v, xcat_nil, Nat.zero_le, Nat.reduceAdd, true_and, ykl_i, yAs_8 W.oo, yns_8 W.oo, h5, h6, W.fp g (show g < D.f by omega), l_50i W hgf (ylast D g + 1 - D.fp g) (D.fp g) a (by omega), ykl_r, h4, ih (g + 1) _ _ _ (show g + 1 + n = D.f by omega)]
    simp only [yfold, yflow]
theorem m_50 (W : yW t o D) : Cl (d + 4) 50 [.ref o] (yemb t) Q ↔ Q (.inl (some (.int (ycurrent D)))) (yemb t) := by
  show G (d + 4) 50 0 [some (.ref o), none, none, none, none] [] (yemb t) Q ↔ _
  simp only [s_50_0, s_50_1, s_50_2, s_50_3, ykl_i, ykl_r]
  exact l_50 W D.f 0 0 none none (Nat.zero_add _)
def yfeed (D : yD) (p : Nat) : Nat := yfold (fun g a => if D.fp g ≤ p then g else a) (D.f - 1) 1 0
theorem yfeed_lt (h : yDok D) (p : Nat) : yfeed D p < D.f := by
  have h1 := h.f1
  have : ∀ n g a, g + n ≤ D.f → a < D.f → yfold (fun g a => if D.fp g ≤ p then g else a) n g a < D.f := by
    intro n
    induction n with
    | zero => intro g a _ ha; exact ha
    | succ n ih =>
      intro g a hg ha
      simp only [yfold]
      apply ih (g + 1) _ (by omega)
      split <;> omega
  exact this _ _ _ (by omega) (by omega)
theorem yfeedF_eq (W : yW t o D) {p : Nat} (hp : p < 40) : ∀ n g a, g + n ≤ D.f → yfeedF (t.A (o + 8)) (yI p) n g (yI a) = yI (yfold (fun g a => if D.fp g ≤ p then g else a) n g a) := by
  have hf6 := W.ok.f6
  have hn40 := W.ok.n40
  intro n
  induction n with
  | zero => intro g a _; rfl
  | succ n ih =>
    intro g a hg
    have h1 := W.ok.fpn g (by omega)
    simp only [yfeedF, yfold, W.fp g (show g < D.f by omega)]
    by_cases h : D.fp g ≤ p
    · have h2 : yI (D.fp g) ≤ yI p := (yI_le (by omega) (by omega)).mpr h
      rw [if_pos h2, if_pos h]
      exact ih (g + 1) g (by omega)
    · have h2 : ¬ yI (D.fp g) ≤ yI p := fun h' => h ((yI_le (by omega) (by omega)).mp h')
      rw [if_neg h2, if_neg h]
      exact ih (g + 1) a (by omega)
theorem m_42' (W : yW t o D) {p : Nat} (hp : p < 40) : Cl d 42 [.ref o, .int (yI p)] (yemb t) Q ↔ Q (.inl (some (.int (yI (yfeed D p))))) (yemb t) := by
  have h1 := W.ok.f1
  rw [m_42 W.oo W.f W.ok.f6 h1]
  have h := yfeedF_eq W hp (D.f - 1) 1 0 (by omega)
  rw [show (0 : Int32) = yI 0 from rfl, h]
  rfl
def yshown (D : yD) (p : Nat) : Int32 := if ylit D p then yshare (D.tk p) (D.fl (yfeed D p)) (yload D (yfeed D p)) else 0
theorem m_48 (W : yW t o D) {p : Nat} (hp : p < 40) : Cl (d + 4) 48 [.ref o, .int (yI p)] (yemb t) Q ↔ Q (.inl (some (.int (yshown D p)))) (yemb t) := by
  have hf6 := W.ok.f6
  have hfe := yfeed_lt W.ok p
  have h2 : yix (yI p) 40 := yix_I (by omega) (by omega)
  have h3 : (yI p).toNatClampNeg = p := yI_clamp (by omega)
  have h5 : yix (yI (yfeed D p)) 6 := yix_I (by omega) (by omega)
  have h6 : (yI (yfeed D p)).toNatClampNeg = yfeed D p := yI_clamp (by omega)
  show G (d + 4) 48 0 [some (.ref o), some (.int (yI p)), none] [] (yemb t) Q ↔ _
  simp only [s_48_0, s_48_1, s_48_2, s_48_3, s_48_4, s_48_5, s_48_6, s_48_7, s_48_8, s_48_9, s_48_10, s_48_11, s_48_12, s_48_13, s_48_14, s_48_15, s_48_16, s_48_17, s_48_18, s_48_19, s_48_20, s_48_21, s_48_22, W.oo, m_46 W hp, m_42' W hp, m_44 W hfe, m_49, Gk_v, xcat_nil, xcat_i, xcat_r, Nat.reduceAdd, Nat.reduceLeDiff, Nat.zero_le, true_and, ifbn, ykl_i, yAs_6 W.oo, yns_6 W.oo, yAs_9 W.oo, yns_9 W.oo, h2, h3, h5, h6, W.tk p hp, W.fl (yfeed D p) (by omega)]
  unfold yshown
  cases hb : ylit D p <;> simp
end
/-! ===== the model's row ===== -/
section
variable {d : Nat} {t : yT} {D : yD} {Q : xR → xS → Prop}
theorem yI0 : (0 : Int32) = yI 0 := rfl
theorem yI1 : (1 : Int32) = yI 1 := rfl
theorem yI2 : (2 : Int32) = yI 2 := rfl
theorem yI3 : (3 : Int32) = yI 3 := rfl
theorem yI4 : (4 : Int32) = yI 4 := rfl
theorem yI5 : (5 : Int32) = yI 5 := rfl
theorem yI6 : (6 : Int32) = yI 6 := rfl
theorem yI7 : (7 : Int32) = yI 7 := rfl
end
/-! ===== the model: loads and what is wrong ===== -/
section
variable {d : Nat} {t : yT} {D : yD} {Q : xR → xS → Prop}
theorem yix0 : yix 0 1540 := yix_I (n := 0) (by omega) (by omega)
theorem yix1 : yix 1 1540 := yix_I (n := 1) (by omega) (by omega)
theorem yix2 : yix 2 1540 := yix_I (n := 2) (by omega) (by omega)
theorem yix3 : yix 3 1540 := yix_I (n := 3) (by omega) (by omega)
theorem ycl0 : (0 : Int32).toNatClampNeg = 0 := rfl
theorem ycl1 : (1 : Int32).toNatClampNeg = 1 := rfl
theorem ycl2 : (2 : Int32).toNatClampNeg = 2 := rfl
theorem ycl3 : (3 : Int32).toNatClampNeg = 3 := rfl
end
/-! ===== the feed of a pixel, on both sides ===== -/
theorem yfp_mono {D : yD} (h : yDok D) : ∀ b a, a < b → b < D.f → D.fp a < D.fp b := by
  intro b
  induction b with
  | zero => intro a ha; omega
  | succ b ih =>
    intro a ha hb
    have h1 := h.fpm b hb
    by_cases e : a = b
    · subst e
      exact h1
    · have := ih a (by omega) (by omega)
      omega
theorem yfeed_inv {D : yD} (h : yDok D) (p : Nat) : ∀ n i a, i + n = D.f → a < i → D.fp a ≤ p → (∀ g, a < g → g < i → p < D.fp g) → D.fp (yfold (fun g a => if D.fp g ≤ p then g else a) n i a) ≤ p ∧ (∀ g, yfold (fun g a => if D.fp g ≤ p then g else a) n i a < g → g < D.f → p < D.fp g) := by
  intro n
  induction n with
  | zero =>
    intro i a hi ha h1 h2
    exact ⟨h1, fun g hg1 hg2 => h2 g hg1 (by omega)⟩
  | succ n ih =>
    intro i a hi ha h1 h2
    simp only [yfold]
    by_cases hc : D.fp i ≤ p
    · rw [if_pos hc]
      exact ih (i + 1) i (by omega) (by omega) hc (fun g hg1 hg2 => by omega)
    · rw [if_neg hc]
      refine ih (i + 1) a (by omega) (by omega) h1 (fun g hg1 hg2 => ?_)
      by_cases e : g = i
      · subst e
        omega
      · exact h2 g hg1 (by omega)
theorem yfeed_spec {D : yD} (h : yDok D) {p : Nat} (hp : p < D.n) : D.fp (yfeed D p) ≤ p ∧ p ≤ ylast D (yfeed D p) := by
  have hf1 := h.f1
  have h0 := yfeed_inv h p (D.f - 1) 1 0 (by omega) (by omega) (by rw [h.fp0]; omega) (fun g hg1 hg2 => by omega)
  refine ⟨h0.1, ?_⟩
  unfold ylast
  split
  · rename_i h1
    have := h0.2 (yfeed D p + 1) (Nat.lt_succ_self _) h1
    omega
  · omega
theorem ylast_lt_feed {D : yD} (h : yDok D) {p g : Nat} (hp : p < D.n) (hg : g < yfeed D p) : ylast D g < p := by
  have h1 := yfeed_lt h p
  have h2 := (yfeed_spec h hp).1
  have h3 := h.fpm g (by omega)
  unfold ylast
  rw [if_pos (by omega)]
  by_cases e : g + 1 = yfeed D p
  · rw [e] at h3 ⊢
    omega
  · have := yfp_mono h (yfeed D p) (g + 1) (by omega) h1
    omega
theorem yfeed_of {D : yD} (h : yDok D) {p g : Nat} (hg : g < D.f) (h1 : D.fp g ≤ p) (h2 : p ≤ ylast D g) : yfeed D p = g := by
  have hp : p < D.n := by
    have := ylast_lt h hg
    omega
  have h3 := yfeed_spec h hp
  have h4 := yfeed_lt h p
  rcases Nat.lt_trichotomy (yfeed D p) g with hh | hh | hh
  · exfalso
    have h5 := yfp_mono h g (yfeed D p) hh hg
    have h6 : D.fp (yfeed D p + 1) ≤ D.fp g := by
      by_cases e : yfeed D p + 1 = g
      · rw [e]
        exact Nat.le_refl _
      · have := yfp_mono h g (yfeed D p + 1) (by omega) hg
        omega
    have h7 := h3.2
    have h8 := h.fpm (yfeed D p) (by omega)
    unfold ylast at h7
    rw [if_pos (by omega)] at h7
    omega
  · exact hh
  · have := ylast_lt_feed h hp hh
    omega
section
variable {d : Nat} {t : yT} {D : yD} {Q : xR → xS → Prop}
end
/-- the current, pixel by pixel -/
def yflat (D : yD) : Int32 := yfold (fun p a => a + ycur D.un (yshown D p)) D.n 0 0
theorem yfold_add {α : Type} {h : Nat → α → α} : ∀ (m n i : Nat) (a : α), yfold h (m + n) i a = yfold h n (i + m) (yfold h m i a) := by
  intro m
  induction m with
  | zero => intro n i a; simp [yfold]
  | succ m ih =>
    intro n i a
    rw [show m + 1 + n = (m + n) + 1 by omega]
    simp only [yfold]
    rw [ih n (i + 1) (h i a), show i + 1 + m = i + (m + 1) by omega]
theorem ycur0 {un : Int32} : ycur un 0 = 0 := by
  unfold ycur
  rw [show ((((0 : Int32) >>> ((16 : Int32) &&& 31)) &&& 255) + (((0 : Int32) >>> ((8 : Int32) &&& 31)) &&& 255) + ((0 : Int32) &&& 255)) = 0 from by decide, Int32.zero_mul]
  decide
theorem yflow_flat {D : yD} (h : yDok D) {g : Nat} (hg : g < D.f) (a : Int32) : yflow D g a = yfold (fun p a => a + ycur D.un (yshown D p)) (ylast D g + 1 - D.fp g) (D.fp g) a := by
  unfold yflow
  have hl := yfp_last h hg
  apply yfold_congr
  intro p b h1 h2
  have hf := yfeed_of h hg h1 (by omega)
  unfold yshown
  rw [hf]
  cases hb : ylit D p
  · simp [ycur0]
  · simp
theorem ycurrent_flat {D : yD} (h : yDok D) : ycurrent D = yflat D := by
  have key : ∀ n g, g + n = D.f → 1 ≤ n → ∀ a, yfold (fun g a => yflow D g a) n g a = yfold (fun p a => a + ycur D.un (yshown D p)) (D.n - D.fp g) (D.fp g) a := by
    intro n
    induction n with
    | zero => intro g _ h1; omega
    | succ n ih =>
      intro g hg _ a
      have hgf : g < D.f := by omega
      have hl := yfp_last h hgf
      have hln := ylast_lt h hgf
      simp only [yfold]
      rw [yflow_flat h hgf]
      by_cases hn : n = 0
      · subst hn
        have : ylast D g = D.n - 1 := by
          unfold ylast
          rw [if_neg (by omega)]
        have e : ylast D g + 1 - D.fp g = D.n - D.fp g := by omega
        rw [e]
        rfl
      · have hl2 : ylast D g = D.fp (g + 1) - 1 := by
          unfold ylast
          rw [if_pos (by omega)]
        have hm := h.fpm g (by omega)
        have hn2 := h.fpn (g + 1) (by omega)
        rw [ih (g + 1) (by omega) (by omega)]
        have e1 : ylast D g + 1 - D.fp g = D.fp (g + 1) - D.fp g := by omega
        have e2 : D.n - D.fp g = (D.fp (g + 1) - D.fp g) + (D.n - D.fp (g + 1)) := by omega
        rw [e1, e2, yfold_add, show D.fp g + (D.fp (g + 1) - D.fp g) = D.fp (g + 1) by omega]
  unfold ycurrent yflat
  rw [key D.f 0 (Nat.zero_add _) h.f1 0, h.fp0]
  rfl
/-! ===== colors ===== -/
theorem yand255 (x : Int32) : ∃ m, m < 256 ∧ x &&& 255 = yI m := by
  refine ⟨x.toBitVec.toNat % 256, Nat.mod_lt _ (by decide), ?_⟩
  apply Int32.toBitVec_inj.mp
  apply BitVec.eq_of_toNat_eq
  have h : (255 : Int32).toBitVec.toNat = 2 ^ 8 - 1 := rfl
  rw [Int32.toBitVec_and, BitVec.toNat_and, h, Nat.and_two_pow_sub_one_eq_mod]
  show _ = (BitVec.ofNat 32 (x.toBitVec.toNat % 256)).toNat
  rw [BitVec.toNat_ofNat, Nat.mod_eq_of_lt (a := x.toBitVec.toNat % 256) (b := 2 ^ 32)]
  omega
theorem yI_nat (n : Nat) : (yI n).toBitVec = BitVec.ofNat 32 n := rfl
theorem yrgb_nat {r g b : Nat} (hr : r < 256) (hg : g < 256) (hb : b < 256) : yrgb (yI r) (yI g) (yI b) = yI (65536 * r + 256 * g + b) := by
  unfold yrgb
  apply Int32.toBitVec_inj.mp
  apply BitVec.eq_of_toNat_eq
  have e16 : ((16 : Int32) &&& 31) = 16 := by decide
  have e8 : ((8 : Int32) &&& 31) = 8 := by decide
  rw [e16, e8, Int32.toBitVec_or, Int32.toBitVec_or, Int32.toBitVec_shiftLeft, Int32.toBitVec_shiftLeft]
  have s16 : ((16 : Int32).toBitVec.smod 32#32) = 16#32 := by decide
  have s8 : ((8 : Int32).toBitVec.smod 32#32) = 8#32 := by decide
  simp only [BitVec.toNat_or, yI_nat]
  rw [show ((16 : Int32).toBitVec.smod 32) = 16#32 from by decide, show ((8 : Int32).toBitVec.smod 32) = 8#32 from by decide]
  rw [BitVec.shiftLeft_eq', BitVec.shiftLeft_eq', BitVec.toNat_shiftLeft, BitVec.toNat_shiftLeft]
  simp only [BitVec.toNat_ofNat]
  rw [Nat.mod_eq_of_lt (a := r) (by omega), Nat.mod_eq_of_lt (a := g) (by omega), Nat.mod_eq_of_lt (a := b) (by omega)]
  have h16 : (16 % 2 ^ 32 : Nat) = 16 := by decide
  have h8 : (8 % 2 ^ 32 : Nat) = 8 := by decide
  rw [h16, h8, Nat.shiftLeft_eq, Nat.shiftLeft_eq, Nat.mod_eq_of_lt (a := r * 2 ^ 16) (by omega), Nat.mod_eq_of_lt (a := g * 2 ^ 8) (by omega), Nat.mod_eq_of_lt (a := 65536 * r + 256 * g + b) (by omega)]
  have a1 : r * 2 ^ 16 ||| g * 2 ^ 8 = r * 2 ^ 16 + g * 2 ^ 8 := by
    rw [← Nat.shiftLeft_eq r 16, ← Nat.shiftLeft_add_eq_or_of_lt (by omega)]
  have a2 : (r * 2 ^ 16 + g * 2 ^ 8) ||| b = r * 2 ^ 16 + g * 2 ^ 8 + b := by
    have e : r * 2 ^ 16 + g * 2 ^ 8 = (r * 2 ^ 8 + g) <<< 8 := by
      rw [Nat.shiftLeft_eq]
      omega
    rw [e, ← Nat.shiftLeft_add_eq_or_of_lt (by omega)]
  rw [a1, a2]
  omega
theorem yI_div {a b : Nat} (ha : a < 2147483648) (hb : b < 2147483648) : yI a / yI b = yI (a / b) := by
  apply Int32.toInt_inj.mp
  have h1 : a / b ≤ a := Nat.div_le_self a b
  have hne : yI a ≠ Int32.minValue := by
    intro h
    have := congrArg Int32.toInt h
    rw [yI_toInt ha, Int32.toInt_minValue] at this
    omega
  rw [Int32.toInt_div_of_ne_left (yI a) (yI b) hne, yI_toInt ha, yI_toInt hb, yI_toInt (by omega)]
  rfl
def ycolor (r g b : Int32) : Int32 := 65536 * r + 256 * g + b
theorem ycolor_nat {r g b : Nat} : ycolor (yI r) (yI g) (yI b) = yI (65536 * r + 256 * g + b) := by
  unfold ycolor
  rw [show (65536 : Int32) = yI 65536 from rfl, show (256 : Int32) = yI 256 from rfl, yI_mul, yI_mul, yI_add, yI_add]
/-- a share of a channel -/
theorem yshare_ch {m lim ld : Nat} (hm : m < 256) (hl : lim < 10000) (h : lim < ld) (hd : ld < 2147483648) : ∃ s, s < 256 ∧ yI m * yI lim / yI ld = yI s := by
  refine ⟨m * lim / ld, ?_, ?_⟩
  · have h1 : m * lim ≤ m * ld := Nat.mul_le_mul_left m (by omega)
    have h2 : m * lim / ld ≤ m := by
      apply Nat.div_le_of_le_mul
      rw [Nat.mul_comm ld m]
      exact h1
    omega
  · have h1 : m * lim ≤ 255 * 9999 := Nat.mul_le_mul (by omega) (by omega)
    rw [yI_mul, yI_div (by omega) hd]
/-! ===== the model: shown colors, the current ===== -/
theorem yshare_color {c ld : Int32} {l : Nat} (hl : l < 10000) (h : yI l < ld) : yshare c (yI l) ld = ycolor (((c >>> ((16 : Int32) &&& 31)) &&& 255) * yI l / ld) (((c >>> ((8 : Int32) &&& 31)) &&& 255) * yI l / ld) ((c &&& 255) * yI l / ld) := by
  have h0 : ¬ ld < 0 := by
    intro h1
    have h2 := Int32.lt_iff_toInt_lt.mp h
    have h3 := Int32.lt_iff_toInt_lt.mp h1
    rw [yI_toInt (by omega)] at h2
    have h4 : (0 : Int32).toInt = 0 := rfl
    omega
  obtain ⟨n, hn, rfl⟩ := yI_of h0
  have hln := (yI_lt (by omega) hn).mp h
  have h1 : ¬ (yI n ≤ yI l ∨ yI n ≤ 0) := by
    rintro (h1 | h1)
    · exact absurd ((yI_le hn (by omega)).mp h1) (by omega)
    · exact absurd ((yI_le (m := 0) hn (by omega)).mp h1) (by omega)
  unfold yshare
  rw [if_neg h1]
  obtain ⟨a, ha, ea⟩ := yand255 (c >>> ((16 : Int32) &&& 31))
  obtain ⟨b, hb, eb⟩ := yand255 (c >>> ((8 : Int32) &&& 31))
  obtain ⟨e, he, ee⟩ := yand255 c
  rw [ea, eb, ee]
  obtain ⟨a', ha', ea'⟩ := yshare_ch ha hl hln hn
  obtain ⟨b', hb', eb'⟩ := yshare_ch hb hl hln hn
  obtain ⟨e', he', ee'⟩ := yshare_ch he hl hln hn
  rw [ea', eb', ee', yrgb_nat ha' hb' he', ycolor_nat]
section
variable {d : Nat} {t : yT} {D : yD} {Q : xR → xS → Prop}
end
/-! ===== strips: the row that goes along ===== -/
/-- the next pixel behind, from p on, that isn't in the set -/
def ynx (b : Nat → Bool) : Nat → Nat → Nat
  | 0, p => p
  | n + 1, p => if b p = true then ynx b n (p + 1) else p
theorem ynx_le {b : Nat → Bool} : ∀ n p, ynx b n p ≤ p + n := by
  intro n
  induction n with
  | zero => intro p; exact Nat.le_refl _
  | succ n ih =>
    intro p
    simp only [ynx]
    split
    · have := ih (p + 1)
      omega
    · omega
def ydead (D : yD) : Nat → Nat → Bool
  | 0, _ => false
  | n + 1, p => if D.kd p == 1 && !D.bp p then true else ydead D n (p + 1)
def ywhy (D : yD) (p : Nat) : Int32 :=
  if D.bp p = true then 1 else if D.kd p = 1 then 2 else if D.kd p = 2 then 3 else if D.og p < 0 then 4
  else if D.tk p = D.du p then (if D.fl (yfeed D p) < yload D (yfeed D p) then 8 else 0)
  else if ydead D p 0 = true then 5 else if D.og p = yI p then 7 else 6
section
variable {d o : Nat} {t : yT} {D : yD} {Q : xR → xS → Prop}
theorem l_56 (W : yW t o D) {l1 : Option Value} {s : Int64} {b : Nat → Bool} (hs : ∀ p, p < 40 → yin s (yI p) = b p) : ∀ n p, p + n = D.n → (G (d + 1) 56 4 [some (.ref o), l1, some (.long s), none, some (.int (yI p))] [] (yemb t) Q ↔ Q (.inl (some (.int (yI (ynx b n p))))) (yemb t)) := by
  have hn40 := W.ok.n40
  intro n
  induction n with
  | zero =>
    intro p hp
    have h1 : yI D.n ≤ yI p := (yI_le (by omega) (by omega)).mpr (by omega)
    rw [s_56_4]
    simp only [s_56_0, s_56_1, s_56_2, s_56_3, s_56_5, s_56_6, s_56_7, s_56_8, s_56_9, s_56_10, s_56_11, s_56_12, s_56_13, s_56_14, s_56_15, W.oo, W.n, h1, if_true, ynx]
  | succ n ih =>
    intro p hp
    have h1 : ¬ yI D.n ≤ yI p := fun h => absurd ((yI_le (by omega) (by omega)).mp h) (by omega)
    have h4 : yI p + 1 = yI (p + 1) := yI_add
    rw [s_56_4]
    simp only [s_56_0, s_56_1, s_56_2, s_56_3, s_56_5, s_56_6, s_56_7, s_56_8, s_56_9, s_56_10, s_56_11, s_56_12, s_56_13, s_56_14, s_56_15, W.oo, W.n, h1, if_false, m_64, hs p (show p < 40 by omega), Gk_v, xcat_nil, Nat.zero_le, Nat.reduceAdd, true_and, ifb, ykl_n, h4, ih (p + 1) (show p + 1 + n = D.n by omega)]
    simp only [ynx]
    cases hb : b p <;> simp
theorem l_63 (W : yW t o D) {q : Nat} (hq : q < 40) : ∀ n p, p + n = q → (G (d + 2) 63 2 [some (.ref o), some (.int (yI q)), some (.int (yI p))] [] (yemb t) Q ↔ Q (.inl (some (.int (yb (ydead D n p))))) (yemb t)) := by
  intro n
  induction n with
  | zero =>
    intro p hp
    have h1 : yI q ≤ yI p := (yI_le (by omega) (by omega)).mpr (by omega)
    rw [s_63_2]
    simp only [s_63_0, s_63_1, s_63_3, s_63_4, s_63_5, s_63_6, s_63_7, s_63_8, s_63_9, s_63_10, s_63_11, s_63_12, s_63_13, s_63_14, s_63_15, s_63_16, s_63_17, s_63_18, s_63_19, s_63_20, h1, if_true, ybo_0, true_and]
    rfl
  | succ n ih =>
    intro p hp
    have h1 : ¬ yI q ≤ yI p := fun h => absurd ((yI_le (by omega) (by omega)).mp h) (by omega)
    have h2 : yix (yI p) 40 := yix_I (by omega) (by omega)
    have h3 : (yI p).toNatClampNeg = p := yI_clamp (by omega)
    have h4 : yI p + 1 = yI (p + 1) := yI_add
    rw [s_63_2]
    simp only [s_63_0, s_63_1, s_63_3, s_63_4, s_63_5, s_63_6, s_63_7, s_63_8, s_63_9, s_63_10, s_63_11, s_63_12, s_63_13, s_63_14, s_63_15, s_63_16, s_63_17, s_63_18, s_63_19, s_63_20, W.oo, h1, if_false, yAs_3 W.oo, yns_3 W.oo, h2, h3, W.kd p (show p < 40 by omega), m_34 W.oo, W.bp p (show p < 40 by omega), Gk_v, xcat_nil, Nat.zero_le, Nat.reduceAdd, true_and, ifbn, ykl_i, h4, ih (p + 1) (show p + 1 + n = q by omega), ybo_1]
    simp only [ydead]
    by_cases hk : D.kd p = 1
    · cases hb : D.bp p <;> simp [hk, yb]
    · simp [hk]
theorem m_63 (W : yW t o D) {q : Nat} (hq : q < 40) : Cl (d + 2) 63 [.ref o, .int (yI q)] (yemb t) Q ↔ Q (.inl (some (.int (yb (ydead D q 0))))) (yemb t) := by
  show G (d + 2) 63 0 [some (.ref o), some (.int (yI q)), none] [] (yemb t) Q ↔ _
  simp only [s_63_0, s_63_1, ykl_i]
  exact l_63 W hq q 0 (Nat.zero_add _)
theorem m_62 (W : yW t o D) {p : Nat} (hp : p < 40) : Cl (d + 4) 62 [.ref o, .int (yI p)] (yemb t) Q ↔ Q (.inl (some (.int (ywhy D p)))) (yemb t) := by
  have hf6 := W.ok.f6
  have hfe := yfeed_lt W.ok p
  have h2 : yix (yI p) 40 := yix_I (by omega) (by omega)
  have h3 : (yI p).toNatClampNeg = p := yI_clamp (by omega)
  have h5 : yix (yI (yfeed D p)) 6 := yix_I (by omega) (by omega)
  have h6 : (yI (yfeed D p)).toNatClampNeg = yfeed D p := yI_clamp (by omega)
  have hlt : ∀ {x y : Int32} {A B : Prop}, (if x ≤ y then A else B) ↔ (if y < x then B else A) := by
    intro x y A B
    by_cases h : x ≤ y
    · rw [if_pos h, if_neg (Int32.not_lt.mpr h)]
    · rw [if_neg h, if_pos (Int32.not_le.mp h)]
  have hge : ∀ {x : Int32} {A B : Prop}, (if 0 ≤ x then A else B) ↔ (if x < 0 then B else A) := by
    intro x A B
    by_cases h : 0 ≤ x
    · rw [if_pos h, if_neg (Int32.not_lt.mpr h)]
    · rw [if_neg h, if_pos (Int32.not_le.mp h)]
  show G (d + 4) 62 0 [some (.ref o), some (.int (yI p)), none] [] (yemb t) Q ↔ _
  simp only [s_62_0, s_62_1, s_62_2, s_62_3, s_62_4, s_62_5, s_62_6, s_62_7, s_62_8, s_62_9, s_62_10, s_62_11, s_62_12, s_62_13, s_62_14, s_62_15, s_62_16, s_62_17, s_62_18, s_62_19, s_62_20, s_62_21, s_62_22, s_62_23, s_62_24, s_62_25, s_62_26, s_62_27, s_62_28, s_62_29, s_62_30, s_62_31, s_62_32, s_62_33, s_62_34, s_62_35, s_62_36, s_62_37, s_62_38, s_62_39, s_62_40, s_62_41, s_62_42, s_62_43, s_62_44, s_62_45, s_62_46, s_62_47, s_62_48, s_62_49, s_62_50, s_62_51, s_62_52, s_62_53, s_62_54, s_62_55, s_62_56, s_62_57, s_62_58, s_62_59, s_62_60, s_62_61, s_62_62, s_62_63, s_62_64, s_62_65, s_62_66, s_62_67, s_62_68, s_62_69, W.oo, m_34 W.oo, W.bp p hp, m_63 W hp, m_42' W hp, m_44 W hfe, Gk_v, xcat_nil, xcat_i, xcat_r, Nat.reduceAdd, Nat.reduceLeDiff, Nat.zero_le, true_and, ifb, ykl_i, yAs_3 W.oo, yns_3 W.oo, yAs_6 W.oo, yns_6 W.oo, yAs_2 W.oo, yns_2 W.oo, yAs_7 W.oo, yns_7 W.oo, yAs_9 W.oo, yns_9 W.oo, h2, h3, h5, h6, W.kd p hp, W.tk p hp, W.du p hp, W.og p hp, W.fl (yfeed D p) (by omega), hlt, hge]
  unfold ywhy
  repeat' split
  all_goals simp_all
end
/-! ===== the model: refusals, reasons ===== -/
section
variable {d : Nat} {t : yT} {D : yD} {Q : xR → xS → Prop}
end
/-! ===== the model: why ===== -/
theorem yM_s1 {t : yT} {D : yD} {a j : Nat} {v : Int32} (h : (162 : Nat) ≠ a) (M : yM (t.A 162) D) : yM ((t.s1 a j v).A 162) D := by
  rw [ys1_ne h]
  exact M
section
variable {d : Nat} {t : yT} {D : yD} {Q : xR → xS → Prop}
end
/-! ===== a whole call of the law on the class's side: why ===== -/
theorem xhd_no {k i e : Nat} (h : xhn k = []) : xhd k i e = none := by
  unfold xhd
  rw [h]
  split <;> rfl
theorem Gk_e {d k i : Nat} {ls : xL} {rest : List Value} {Q : xR → xS → Prop} {e : Nat} {σ : xS} : Gk d k i ls rest Q (.inr e) σ = (match xhd k i e with
    | none => False
    | some h => G d k h.1 ((xkill ls h.2).set h.2 none) [] σ Q) := rfl
section
variable {d : Nat} {t : yT} {D : yD} {Q : xR → xS → Prop}
theorem m_102 (W : yW t 7 D) (hz : t.z.1.1 < 900000) {p : Int32} : Cl (d + 5) 102 [.ref 0, .int p] (yemb t) Q ↔ (if 0 ≤ p ∧ p < yI D.n then Q (.inl (some (.int (ywhy D p.toNatClampNeg)))) (yemb t) else Q (.inr 1) (yemb t.bp)) := by
  have hn40 := W.ok.n40
  show G (d + 5) 102 0 [some (.ref 0), some (.int p)] [] (yemb t) Q ↔ _
  have hz' : (yemb t).2.1.1 < 900000 := hz
  by_cases h : 0 ≤ p ∧ p < yI D.n
  · obtain ⟨q, hq, rfl⟩ := yI_of (Int32.not_lt.mpr h.1)
    have hqn := (yI_lt hq (by omega)).mp h.2
    rw [if_pos h, yI_clamp hq]
    simp only [s_102_0, s_102_1, s_102_2, s_102_3, s_102_4, s_102_5, s_102_6, s_102_6i, s_102_9, s_102_10, s_102_11, s_102_12, s_102_13, yO_0, yO_7, m_32 yO_7, W.n, h, and_self, decide_true, m_62 W (show q < 40 by omega), Gk_v, xcat_nil, xcat_i, xcat_r, Nat.reduceAdd, Nat.reduceLeDiff, Nat.zero_le, true_and, ifbn, if_true]
  · rw [if_neg h]
    simp only [s_102_0, s_102_1, s_102_2, s_102_3, s_102_4, s_102_5, s_102_6, s_102_6i, s_102_9, s_102_10, s_102_11, s_102_12, s_102_13, yO_0, yO_7, m_32 yO_7, W.n, h, decide_false, Gk_v, xcat_nil, xcat_i, xcat_r, Nat.reduceAdd, Nat.reduceLeDiff, Nat.zero_le, true_and, ifbn, Bool.false_eq_true, if_false, hz', xbump_emb]
end

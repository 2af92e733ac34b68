theorem m_64 {d : Nat} {s : Int64} {j : Int32} {σ : xS} {Q : xR → xS → Prop} : Cl d 64 [.long s, .int j] σ Q ↔ Q (.inl (some (.int (yb (yin s j))))) σ := by
  show G d 64 0 [some (.long s), none, some (.int j)] [] σ Q ↔ _
  simp only [s_64_0, s_64_1, s_64_2, s_64_3, s_64_4, s_64_5, s_64_6, s_64_7, s_64_8, s_64_9, s_64_10, s_64_11, lg_cmp0, ybo_0, ybo_1, true_and]
  unfold yb yin
  by_cases h : (s.toUInt64 >>> (j.toInt64.toUInt64 &&& Int64.toUInt64 63)).toInt64 &&& 1 = 0
  · simp [h]
  · simp [h]
theorem m_34 {d : Nat} {o : Nat} {j : Int32} {t : yT} {Q : xR → xS → Prop} (ho : yisO 4 o) : Cl (d + 1) 34 [.ref o, .int j] (yemb t) Q ↔ Q (.inl (some (.int (yb (yin (t.L o 15) j))))) (yemb t) := by
  show G (d + 1) 34 0 [some (.ref o), some (.int j)] [] (yemb t) Q ↔ _
  simp only [s_34_0, s_34_1, s_34_2, s_34_3, s_34_4, ho, m_64, Gk_v, ybo_b, xcat_nil, Nat.zero_le, true_and, Nat.reduceAdd]
theorem m_32 {d : Nat} {o : Nat} {j : Int32} {t : yT} {Q : xR → xS → Prop} (ho : yisO 4 o) : Cl d 32 [.ref o, .int j] (yemb t) Q ↔ Q (.inl (some (.int (yb (decide (0 ≤ j ∧ j < t.A o 9)))))) (yemb t) := by
  show G d 32 0 [some (.ref o), some (.int j)] [] (yemb t) Q ↔ _
  simp only [s_32_0, s_32_1, s_32_2, s_32_3, s_32_4, s_32_5, s_32_6, s_32_7, s_32_8, s_32_9, ho, ybo_0, ybo_1, true_and]
  by_cases h1 : j < 0
  · have h2 : ¬ 0 ≤ j := Int32.not_le.mpr h1
    simp [h1, h2, yb]
  · have h2 : 0 ≤ j := Int32.not_lt.mp h1
    by_cases h3 : t.A o 9 ≤ j
    · have h4 := Int32.not_lt.mpr h3
      simp [h1, h2, h3, h4, yb]
    · have h4 := Int32.not_le.mp h3
      simp [h1, h2, h3, h4, yb]
/-! ===== strips: loops over feeds and pixels ===== -/
def yfeedF (fp : Nat → Int32) (j : Int32) : Nat → Nat → Int32 → Int32
  | 0, _, a => a
  | n + 1, i, a => yfeedF fp j n (i + 1) (if fp i ≤ j then yI i else a)
theorem l_42 {d o f : Nat} {j : Int32} {t : yT} {Q : xR → xS → Prop} (ho : yisO 4 o) (hf : t.A o 12 = yI f) (hf6 : f ≤ 6) : ∀ n i a, i + n = f → (G d 42 4 [some (.ref o), some (.int j), some (.int a), some (.int (yI i))] [] (yemb t) Q ↔ Q (.inl (some (.int (yfeedF (t.A (o + 8)) j n i a)))) (yemb t)) := by
  intro n
  induction n with
  | zero =>
    intro i a hi
    have h1 : yI f ≤ yI i := (yI_le (by omega) (by omega)).mpr (by omega)
    rw [s_42_4]
    simp only [s_42_0, s_42_1, s_42_2, s_42_3, s_42_5, s_42_6, s_42_7, s_42_8, s_42_9, s_42_10, s_42_11, s_42_12, s_42_13, s_42_14, s_42_15, s_42_16, s_42_17, s_42_18, s_42_19, ho, hf, h1, if_true, yfeedF]
  | succ n ih =>
    intro i a hi
    have h1 : ¬ yI f ≤ yI i := fun h => absurd ((yI_le (by omega) (by omega)).mp h) (by omega)
    have h2 : yix (yI i) 6 := yix_I (by omega) (by omega)
    have h3 : (yI i).toNatClampNeg = i := yI_clamp (by omega)
    have h4 : yI i + 1 = yI (i + 1) := yI_add
    rw [s_42_4]
    simp only [s_42_0, s_42_1, s_42_2, s_42_3, s_42_5, s_42_6, s_42_7, s_42_8, s_42_9, s_42_10, s_42_11, s_42_12, s_42_13, s_42_14, s_42_15, s_42_16, s_42_17, s_42_18, s_42_19, ho, hf, h1, if_false, yAs_8 ho, yns_8 ho, h2, h3, true_and, ykl_i, h4, ih (i + 1) _ (by omega)]
    simp only [yfeedF]
    by_cases h : t.A (o + 8) i ≤ j
    · have h' : ¬ j < t.A (o + 8) i := Int32.not_lt.mpr h
      simp only [h, h', if_true, if_false]
    · have h' : j < t.A (o + 8) i := Int32.not_le.mp h
      simp only [h, h', if_true, if_false]
theorem m_42 {d o f : Nat} {j : Int32} {t : yT} {Q : xR → xS → Prop} (ho : yisO 4 o) (hf : t.A o 12 = yI f) (hf6 : f ≤ 6) (hf1 : 1 ≤ f) : Cl d 42 [.ref o, .int j] (yemb t) Q ↔ Q (.inl (some (.int (yfeedF (t.A (o + 8)) j (f - 1) 1 0)))) (yemb t) := by
  show G d 42 0 [some (.ref o), some (.int j), none, none] [] (yemb t) Q ↔ _
  simp only [s_42_0, s_42_1, s_42_2, s_42_3, ykl_i]
  exact l_42 ho hf hf6 (f - 1) 1 0 (by omega)
/-! ===== what a strip is ===== -/
def yfold {α : Type} (h : Nat → α → α) : Nat → Nat → α → α
  | 0, _, a => a
  | n + 1, i, a => yfold h n (i + 1) (h i a)
theorem yfold_congr {α : Type} {h h' : Nat → α → α} : ∀ (n i : Nat) (a : α), (∀ j b, i ≤ j → j < i + n → h j b = h' j b) → yfold h n i a = yfold h' n i a := by
  intro n
  induction n with
  | zero => intro i a _; rfl
  | succ n ih =>
    intro i a hh
    show yfold h n (i + 1) (h i a) = yfold h' n (i + 1) (h' i a)
    rw [hh i a (Nat.le_refl _) (by omega)]
    exact ih (i + 1) _ (fun j b h1 h2 => hh j b (by omega) (by omega))
def ylast (D : yD) (g : Nat) : Nat := if g + 1 < D.f then D.fp (g + 1) - 1 else D.n - 1
theorem ylast_lt {D : yD} (h : yDok D) {g : Nat} (hg : g < D.f) : ylast D g < D.n := by
  unfold ylast
  have := h.n1
  split
  · rename_i h1
    have := h.fpn (g + 1) h1
    omega
  · omega
theorem yI_sub1 {n : Nat} (h : 1 ≤ n) : yI n - 1 = yI (n - 1) := by
  have : yI n = yI (n - 1) + 1 := by
    show yI n = yI (n - 1) + yI 1
    rw [yI_add]
    congr 1
    omega
  rw [this, Int32.add_sub_cancel]
def ylit (D : yD) (p : Nat) : Bool := (D.kd p == 0 || D.kd p == 3) && !D.bp p
def ycur (un c : Int32) : Int32 := (((c >>> ((16 : Int32) &&& 31)) &&& 255) + ((c >>> ((8 : Int32) &&& 31)) &&& 255) + (c &&& 255)) * un / 765
/-- what a feed bears -/
def yload (D : yD) (g : Nat) : Int32 := yfold (fun p a => if ylit D p then a + ycur D.un (D.tk p) else a) (ylast D g + 1 - D.fp g) (D.fp g) 0
section
variable {d o : Nat} {t : yT} {D : yD} {Q : xR → xS → Prop}
theorem m_43 (W : yW t o D) {g : Nat} (hg : g < D.f) : Cl d 43 [.ref o, .int (yI g)] (yemb t) Q ↔ Q (.inl (some (.int (yI (ylast D g))))) (yemb t) := by
  have hf6 := W.ok.f6
  have hn1 := W.ok.n1
  have hn40 := W.ok.n40
  have e1 : yI g + 1 = yI (g + 1) := yI_add
  show G d 43 0 [some (.ref o), some (.int (yI g))] [] (yemb t) Q ↔ _
  by_cases h : g + 1 < D.f
  · have h1 : ¬ yI D.f ≤ yI (g + 1) := fun h' => absurd ((yI_le (by omega) (by omega)).mp h') (by omega)
    have h2 : yix (yI (g + 1)) 6 := yix_I (by omega) (by omega)
    have h3 : (yI (g + 1)).toNatClampNeg = g + 1 := yI_clamp (by omega)
    have h5 := W.ok.fpm g h
    simp only [s_43_0, s_43_1, s_43_2, s_43_3, s_43_4, s_43_5, s_43_6, s_43_7, s_43_8, s_43_9, s_43_10, s_43_11, s_43_12, s_43_13, s_43_14, s_43_15, s_43_16, s_43_17, s_43_18, s_43_19, W.oo, W.f, e1, h1, if_false, yAs_8 W.oo, yns_8 W.oo, h2, h3, true_and, W.fp (g + 1) (by omega), yI_sub1 (show 1 ≤ D.fp (g + 1) by omega)]
    rw [ylast, if_pos h]
  · have h1 : yI D.f ≤ yI (g + 1) := (yI_le (by omega) (by omega)).mpr (by omega)
    simp only [s_43_0, s_43_1, s_43_2, s_43_3, s_43_4, s_43_5, s_43_6, s_43_7, s_43_8, s_43_9, s_43_10, s_43_11, s_43_12, s_43_13, s_43_14, s_43_15, s_43_16, s_43_17, s_43_18, s_43_19, W.oo, W.f, e1, h1, if_true, W.n, yI_sub1 hn1]
    rw [ylast, if_neg h]
theorem m_46 (W : yW t o D) {p : Nat} (hp : p < 40) : Cl (d + 2) 46 [.ref o, .int (yI p)] (yemb t) Q ↔ Q (.inl (some (.int (yb (ylit D p))))) (yemb t) := by
  have h2 : yix (yI p) 40 := yix_I (by omega) (by omega)
  have h3 : (yI p).toNatClampNeg = p := yI_clamp (by omega)
  show G (d + 2) 46 0 [some (.ref o), some (.int (yI p))] [] (yemb t) Q ↔ _
  simp only [s_46_0, s_46_1, s_46_2, s_46_3, s_46_4, s_46_5, s_46_6, s_46_7, s_46_8, s_46_9, s_46_10, s_46_11, s_46_12, s_46_13, s_46_14, s_46_15, s_46_16, s_46_17, s_46_18, s_46_19, W.oo, yAs_3 W.oo, yns_3 W.oo, h2, h3, true_and, W.kd p hp, m_64, ybo_b, W.bp p hp, Gk_v, xcat_nil, Nat.zero_le, Nat.reduceAdd, ybo_0, ybo_1]
  unfold ylit
  by_cases h0 : D.kd p = 0
  · cases hb : D.bp p <;> simp [h0, hb, yb]
  · by_cases h1 : D.kd p = 3
    · cases hb : D.bp p <;> simp [h0, h1, hb, yb]
    · cases hb : D.bp p <;> simp [h0, h1, hb, yb]
theorem m_47 (W : yW t o D) {c : Int32} : Cl d 47 [.ref o, .int c] (yemb t) Q ↔ Q (.inl (some (.int (ycur D.un c)))) (yemb t) := by
  show G d 47 0 [some (.ref o), some (.int c)] [] (yemb t) Q ↔ _
  have h : ¬ (765 : Int32) = 0 := by decide
  simp only [s_47_0, s_47_1, s_47_2, s_47_3, s_47_4, s_47_5, s_47_6, s_47_7, s_47_8, s_47_9, s_47_10, s_47_11, s_47_12, s_47_13, s_47_14, s_47_15, s_47_16, s_47_17, s_47_18, s_47_19, s_47_20, W.oo, W.un, h, not_false_eq_true]
  rfl
end
/-! ===== strips: loads, colors, what is wrong ===== -/
def yout (D : yD) (p : Nat) : Bool := D.kd p == 1 || D.kd p == 2
def ywrong (D : yD) (p : Nat) : Bool := !D.bp p && (yout D p || D.tk p != D.du p)
def ywrongs (D : yD) : Int32 := yfold (fun p a => if ywrong D p then a + 1 else a) D.n 0 0
def yrgb (r g b : Int32) : Int32 := (r <<< ((16 : Int32) &&& 31)) ||| (g <<< ((8 : Int32) &&& 31)) ||| b
def yshare (c lim ld : Int32) : Int32 := if ld ≤ lim ∨ ld ≤ 0 then c else yrgb (((c >>> ((16 : Int32) &&& 31)) &&& 255) * lim / ld) (((c >>> ((8 : Int32) &&& 31)) &&& 255) * lim / ld) ((c &&& 255) * lim / ld)
def ysumlim (D : yD) : Int32 := yfold (fun g a => a + D.fl g) D.f 0 0
theorem ifb {b : Bool} {α : Sort _} {x y : α} : (if yb b = 0 then x else y) = if b = true then y else x := by
  cases b <;> rfl
theorem ifbn {b : Bool} {α : Sort _} {x y : α} : (if yb b ≠ 0 then x else y) = if b = true then x else y := by
  cases b <;> rfl
section
variable {d o : Nat} {t : yT} {D : yD} {Q : xR → xS → Prop}
theorem l_44 (W : yW t o D) {g : Nat} (hg : g < D.f) : ∀ n p a, p + n = ylast D g + 1 → (G (d + 3) 44 7 [some (.ref o), some (.int (yI g)), some (.int a), some (.int (yI p))] [] (yemb t) Q ↔ Q (.inl (some (.int (yfold (fun p a => if ylit D p then a + ycur D.un (D.tk p) else a) n p a)))) (yemb t)) := by
  have hn40 := W.ok.n40
  have hl := ylast_lt W.ok hg
  intro n
  induction n with
  | zero =>
    intro p a hp
    have h1 : yI (ylast D g) < yI p := (yI_lt (by omega) (by omega)).mpr (by omega)
    rw [s_44_7]
    simp only [s_44_0, s_44_1, s_44_2, s_44_3, s_44_4, s_44_5, s_44_6, s_44_8, s_44_9, s_44_10, s_44_11, s_44_12, s_44_13, s_44_14, s_44_15, s_44_16, s_44_17, s_44_18, s_44_19, s_44_20, s_44_21, s_44_22, s_44_23, s_44_24, s_44_25, s_44_26, s_44_27, s_44_28, W.oo, m_43 W hg, Gk_v, xcat_nil, xcat_i, Nat.reduceAdd, Nat.reduceLeDiff, true_and, h1, if_true, yfold]
  | succ n ih =>
    intro p a hp
    have h1 : ¬ yI (ylast D g) < yI p := fun h => absurd ((yI_lt (by omega) (by omega)).mp h) (by omega)
    have h2 : yix (yI p) 40 := yix_I (by omega) (by omega)
    have h3 : (yI p).toNatClampNeg = p := yI_clamp (by omega)
    have h4 : yI p + 1 = yI (p + 1) := yI_add
    rw [s_44_7]
    simp only [s_44_0, s_44_1, s_44_2, s_44_3, s_44_4, s_44_5, s_44_6, s_44_8, s_44_9, s_44_10, s_44_11, s_44_12, s_44_13, s_44_14, s_44_15, s_44_16, s_44_17, s_44_18, s_44_19, s_44_20, s_44_21, s_44_22, s_44_23, s_44_24, s_44_25, s_44_26, s_44_27, s_44_28, W.oo, m_43 W hg, m_46 W (show p < 40 by omega), m_47 W, Gk_v, xcat_nil, xcat_i, xcat_r, Nat.reduceAdd, Nat.reduceLeDiff, true_and, h1, if_false, ifb, ykl_i, h4, yAs_6 W.oo, yns_6 W.oo, h2, h3, W.tk p (by omega), ih (p + 1) _ (by omega)]
    simp only [yfold]
    cases ylit D p <;> simp
theorem m_44 (W : yW t o D) {g : Nat} (hg : g < D.f) : Cl (d + 3) 44 [.ref o, .int (yI g)] (yemb t) Q ↔ Q (.inl (some (.int (yload D g)))) (yemb t) := by
  have hf6 := W.ok.f6
  have hfl : D.fp g ≤ ylast D g := by
    unfold ylast
    split
    · rename_i h
      have := W.ok.fpm g h
      omega
    · have := W.ok.fpn g hg
      omega
  have h2 : yix (yI g) 6 := yix_I (by omega) (by omega)
  have h3 : (yI g).toNatClampNeg = g := yI_clamp (by omega)
  show G (d + 3) 44 0 [some (.ref o), some (.int (yI g)), none, none] [] (yemb t) Q ↔ _
  simp only [s_44_0, s_44_1, s_44_2, s_44_3, s_44_4, s_44_5, s_44_6, ykl_i, W.oo, yAs_8 W.oo, yns_8 W.oo, h2, h3, true_and, W.fp g (by omega)]
  exact l_44 W hg _ _ _ (by omega)
theorem m_58 (W : yW t o D) {p : Nat} (hp : p < 40) : Cl d 58 [.ref o, .int (yI p)] (yemb t) Q ↔ Q (.inl (some (.int (yb (yout D p))))) (yemb t) := by
  have h2 : yix (yI p) 40 := yix_I (by omega) (by omega)
  have h3 : (yI p).toNatClampNeg = p := yI_clamp (by omega)
  show G d 58 0 [some (.ref o), some (.int (yI p))] [] (yemb t) Q ↔ _
  simp only [s_58_0, s_58_1, s_58_2, s_58_3, s_58_4, s_58_5, s_58_6, s_58_7, s_58_8, s_58_9, s_58_10, s_58_11, s_58_12, s_58_13, s_58_14, s_58_15, W.oo, yAs_3 W.oo, yns_3 W.oo, h2, h3, true_and, W.kd p hp, ybo_0, ybo_1]
  unfold yout
  by_cases h0 : D.kd p = 1
  · simp [h0, yb]
  · by_cases h1 : D.kd p = 2
    · simp [h1, yb]
    · simp [h0, h1, yb]
theorem l_59 (W : yW t o D) : ∀ n p a, p + n = D.n → (G (d + 3) 59 4 [some (.ref o), some (.int a), some (.int (yI p))] [] (yemb t) Q ↔ Q (.inl (some (.int (yfold (fun p a => if ywrong D p then a + 1 else a) n p a)))) (yemb t)) := by
  have hn40 := W.ok.n40
  intro n
  induction n with
  | zero =>
    intro p a hp
    have h1 : yI D.n ≤ yI p := (yI_le (by omega) (by omega)).mpr (by omega)
    rw [s_59_4]
    simp only [s_59_0, s_59_1, s_59_2, s_59_3, s_59_5, s_59_6, s_59_7, s_59_8, s_59_9, s_59_10, s_59_11, s_59_12, s_59_13, s_59_14, s_59_15, s_59_16, s_59_17, s_59_18, s_59_19, s_59_20, s_59_21, s_59_22, s_59_23, s_59_24, s_59_25, s_59_26, s_59_27, s_59_28, s_59_29, W.oo, W.n, h1, if_true, yfold]
  | succ n ih =>
    intro p a hp
    have h1 : ¬ yI D.n ≤ yI p := fun h => absurd ((yI_le (by omega) (by omega)).mp h) (by omega)
    have h2 : yix (yI p) 40 := yix_I (by omega) (by omega)
    have h3 : (yI p).toNatClampNeg = p := yI_clamp (by omega)
    have h4 : yI p + 1 = yI (p + 1) := yI_add
    rw [s_59_4]
    simp only [s_59_0, s_59_1, s_59_2, s_59_3, s_59_5, s_59_6, s_59_7, s_59_8, s_59_9, s_59_10, s_59_11, s_59_12, s_59_13, s_59_14, s_59_15, s_59_16, s_59_17, s_59_18, s_59_19, s_59_20, s_59_21, s_59_22, s_59_23, s_59_24, s_59_25, s_59_26, s_59_27, s_59_28, s_59_29, W.oo, W.n, m_34 W.oo, W.bp p (show p < 40 by omega), m_58 W (show p < 40 by omega), Gk_v, xcat_nil, Nat.zero_le, Nat.reduceAdd, true_and, h1, if_false, ifbn, ykl_i, ykl_r, h4, yAs_6 W.oo, yns_6 W.oo, yAs_2 W.oo, yns_2 W.oo, h2, h3, W.tk p (show p < 40 by omega), W.du p (show p < 40 by omega), ih (p + 1) _ (show p + 1 + n = D.n by omega)]
    simp only [yfold]
    have hw : ywrong D p = (!D.bp p && (yout D p || D.tk p != D.du p)) := rfl
    rw [hw]
    cases hb : D.bp p <;> cases hq : yout D p <;> by_cases h : D.tk p = D.du p <;> simp [h]
theorem m_59 (W : yW t o D) : Cl (d + 3) 59 [.ref o] (yemb t) Q ↔ Q (.inl (some (.int (ywrongs D)))) (yemb t) := by
  show G (d + 3) 59 0 [some (.ref o), none, none] [] (yemb t) Q ↔ _
  simp only [s_59_0, s_59_1, s_59_2, s_59_3, ykl_i, ykl_r]
  exact l_59 W D.n 0 0 (Nat.zero_add _)
theorem l_45 (W : yW t o D) : ∀ n g a, g + n = D.f → (G d 45 4 [some (.ref o), some (.int a), some (.int (yI g))] [] (yemb t) Q ↔ Q (.inl (some (.int (yfold (fun g a => a + D.fl g) n g a)))) (yemb t)) := by
  have hf6 := W.ok.f6
  intro n
  induction n with
  | zero =>
    intro p a hp
    have h1 : yI D.f ≤ yI p := (yI_le (by omega) (by omega)).mpr (by omega)
    rw [s_45_4]
    simp only [s_45_0, s_45_1, s_45_2, s_45_3, s_45_5, s_45_6, s_45_7, s_45_8, s_45_9, s_45_10, s_45_11, s_45_12, s_45_13, s_45_14, s_45_15, s_45_16, s_45_17, s_45_18, W.oo, W.f, h1, if_true, yfold]
  | succ n ih =>
    intro p a hp
    have h1 : ¬ yI D.f ≤ yI p := fun h => absurd ((yI_le (by omega) (by omega)).mp h) (by omega)
    have h2 : yix (yI p) 6 := yix_I (by omega) (by omega)
    have h3 : (yI p).toNatClampNeg = p := yI_clamp (by omega)
    have h4 : yI p + 1 = yI (p + 1) := yI_add
    rw [s_45_4]
    simp only [s_45_0, s_45_1, s_45_2, s_45_3, s_45_5, s_45_6, s_45_7, s_45_8, s_45_9, s_45_10, s_45_11, s_45_12, s_45_13, s_45_14, s_45_15, s_45_16, s_45_17, s_45_18, W.oo, W.f, true_and, h1, if_false, ykl_i, ykl_r, h4, yAs_9 W.oo, yns_9 W.oo, h2, h3, W.fl p (show p < D.f by omega), ih (p + 1) _ (show p + 1 + n = D.f by omega), yfold]
theorem m_45 (W : yW t o D) : Cl d 45 [.ref o] (yemb t) Q ↔ Q (.inl (some (.int (ysumlim D)))) (yemb t) := by
  show G d 45 0 [some (.ref o), none, none] [] (yemb t) Q ↔ _
  simp only [s_45_0, s_45_1, s_45_2, s_45_3, ykl_i, ykl_r]
  exact l_45 W D.f 0 0 (Nat.zero_add _)
end
/-! ===== strips: shared colors and the current ===== -/
theorem m_121 {d : Nat} {r g b : Int32} {σ : xS} {Q : xR → xS → Prop} : Cl d 121 [.int r, .int g, .int b] σ Q ↔ Q (.inl (some (.int (yrgb r g b)))) σ := by
  show G d 121 0 [some (.int r), some (.int g), some (.int b)] [] σ Q ↔ _
  simp only [s_121_0, s_121_1, s_121_2, s_121_3, s_121_4, s_121_5, s_121_6, s_121_7, s_121_8, s_121_9]
  rfl
theorem m_49 {d : Nat} {c lim ld : Int32} {σ : xS} {Q : xR → xS → Prop} : Cl (d + 1) 49 [.int c, .int lim, .int ld] σ Q ↔ Q (.inl (some (.int (yshare c lim ld)))) σ := by
  show G (d + 1) 49 0 [some (.int c), some (.int lim), some (.int ld), none, none, none] [] σ Q ↔ _
  unfold yshare
  by_cases h1 : ld ≤ lim
  · simp only [s_49_0, s_49_1, s_49_2, s_49_3, s_49_4, s_49_5, s_49_6, s_49_7, s_49_8, s_49_9, s_49_10, s_49_11, s_49_12, s_49_13, s_49_14, s_49_15, s_49_16, s_49_17, s_49_18, s_49_19, s_49_20, s_49_21, s_49_22, s_49_23, s_49_24, s_49_25, s_49_26, s_49_27, s_49_28, s_49_29, s_49_30, s_49_31, s_49_32, s_49_33, s_49_34, s_49_35, s_49_36, s_49_37, s_49_38, s_49_39, h1, if_true, true_or]
  · by_cases h2 : 0 < ld
    · have h3 : ¬ ld ≤ 0 := Int32.not_le.mpr h2
      have h4 : ¬ ld = 0 := by
        intro h
        subst h
        exact absurd h2 (by decide)
      simp only [s_49_0, s_49_1, s_49_2, s_49_3, s_49_4, s_49_5, s_49_6, s_49_7, s_49_8, s_49_9, s_49_10, s_49_11, s_49_12, s_49_13, s_49_14, s_49_15, s_49_16, s_49_17, s_49_18, s_49_19, s_49_20, s_49_21, s_49_22, s_49_23, s_49_24, s_49_25, s_49_26, s_49_27, s_49_28, s_49_29, s_49_30, s_49_31, s_49_32, s_49_33, s_49_34, s_49_35, s_49_36, s_49_37, s_49_38, s_49_39, h1, h2, h3, h4, if_true, if_false, or_self, not_false_eq_true, ykl_i, m_121, Gk_v, xcat_nil, Nat.zero_le, Nat.reduceAdd, true_and]
    · have h3 : ld ≤ 0 := Int32.not_lt.mp h2
      simp only [s_49_0, s_49_1, s_49_2, s_49_3, s_49_4, s_49_5, s_49_6, s_49_7, s_49_8, s_49_9, s_49_10, s_49_11, s_49_12, s_49_13, s_49_14, s_49_15, s_49_16, s_49_17, s_49_18, s_49_19, s_49_20, s_49_21, s_49_22, s_49_23, s_49_24, s_49_25, s_49_26, s_49_27, s_49_28, s_49_29, s_49_30, s_49_31, s_49_32, s_49_33, s_49_34, s_49_35, s_49_36, s_49_37, s_49_38, s_49_39, h1, h2, h3, if_true, if_false, or_true]
section
variable {d o : Nat} {t : yT} {D : yD} {Q : xR → xS → Prop}
def yflow (D : yD) (g : Nat) (a : Int32) : Int32 := yfold (fun p a => if ylit D p then a + ycur D.un (yshare (D.tk p) (D.fl g) (yload D g)) else a) (ylast D g + 1 - D.fp g) (D.fp g) a
def ycurrent (D : yD) : Int32 := yfold (fun g a => yflow D g a) D.f 0 0
theorem yfp_last (h : yDok D) {g : Nat} (hg : g < D.f) : D.fp g ≤ ylast D g := by
  unfold ylast
  split
  · rename_i h1
    have := h.fpm g h1
    omega
  · have := h.fpn g hg
    omega
theorem l_50i (W : yW t o D) {g : Nat} (hg : g < D.f) : ∀ n p a, p + n = ylast D g + 1 → (G (d + 4) 50 17 [some (.ref o), some (.int a), some (.int (yI g)), some (.int (yload D g)), some (.int (yI p))] [] (yemb t) Q ↔ G (d + 4) 50 43 [some (.ref o), some (.int (yfold (fun p a => if ylit D p then a + ycur D.un (yshare (D.tk p) (D.fl g) (yload D g)) else a) n p a)), some (.int (yI g)), some (.int (yload D g)), some (.int (yI (p + n)))] [] (yemb t) Q) := by
  have hn40 := W.ok.n40
  have hf6 := W.ok.f6
  have hl := ylast_lt W.ok hg
  have h5 : yix (yI g) 6 := yix_I (by omega) (by omega)
  have h6 : (yI g).toNatClampNeg = g := yI_clamp (by omega)
  intro n
  induction n with
  | zero =>
    intro p a hp
    have h1 : yI (ylast D g) < yI p := (yI_lt (by omega) (by omega)).mpr (by omega)
    rw [s_50_17]
    simp only [s_50_0, s_50_1, s_50_2, s_50_3, s_50_4, s_50_5, s_50_6, s_50_7, s_50_8, s_50_9, s_50_10, s_50_11, s_50_12, s_50_13, s_50_14, s_50_15, s_50_16, s_50_18, s_50_19, s_50_20, s_50_21, s_50_22, s_50_23, s_50_24, s_50_25, s_50_26, s_50_27, s_50_28, s_50_29, s_50_30, s_50_31, s_50_32, s_50_33, s_50_34, s_50_35, s_50_36, s_50_37, s_50_38, s_50_39, s_50_40, s_50_41, s_50_42, s_50_44, s_50_45, s_50_46, W.oo, m_43 W hg, Gk_v, xcat_nil, xcat_i, Nat.reduceAdd, Nat.reduceLeDiff, true_and, h1, if_true, yfold, Nat.add_zero]
  | succ n ih =>
    intro p a hp
    have h1 : ¬ yI (ylast D g) < yI p := fun h => absurd ((yI_lt (by omega) (by omega)).mp h) (by omega)
    have h2 : yix (yI p) 40 := yix_I (by omega) (by omega)
    have h3 : (yI p).toNatClampNeg = p := yI_clamp (by omega)
    have h4 : yI p + 1 = yI (p + 1) := yI_add
    rw [s_50_17]
    simp only [s_50_0, s_50_1, s_50_2, s_50_3, s_50_4, s_50_5, s_50_6, s_50_7, s_50_8, s_50_9, s_50_10, s_50_11, s_50_12, s_50_13, s_50_14, s_50_15, s_50_16, s_50_18, s_50_19, s_50_20, s_50_21, s_50_22, s_50_23, s_50_24, s_50_25, s_50_26, s_50_27, s_50_28, s_50_29, s_50_30, s_50_31, s_50_32, s_50_33, s_50_34, s_50_35, s_50_36, s_50_37, s_50_38, s_50_39, s_50_40, s_50_41, s_50_42, s_50_44, s_50_45, s_50_46, W.oo, m_43 W hg, m_46 W (show p < 40 by omega), m_47 W, m_49, Gk_v, xcat_nil, xcat_i, xcat_r, Nat.reduceAdd, Nat.reduceLeDiff, true_and, h1, if_false, ifb, ykl_i, ykl_r, h4, yAs_6 W.oo, yns_6 W.oo, yAs_9 W.oo, yns_9 W.oo, h2, h3, h5, h6, W.tk p (by omega), W.fl g (by omega), ih (p + 1) _ (by omega)]
    simp only [yfold, show p + 1 + n = p + (n + 1) by omega]
    cases hb : ylit D p <;> simp
theorem l_50 (W : yW t o D) : ∀ n g a l3 l4, g + n = D.f → (G (d + 4) 50 4 [some (.ref o), some (.int a), some (.int (yI g)), l3, l4] [] (yemb t) Q ↔ Q (.inl (some (.int (yfold (fun g a => yflow D g a) n g a)))) (yemb t)) := by
  have hn40 := W.ok.n40
  have hf6 := W.ok.f6
  intro n
  induction n with
  | zero =>
    intro g a l3 l4 hg
    have h1 : yI D.f ≤ yI g := (yI_le (by omega) (by omega)).mpr (by omega)
    rw [s_50_4]
    simp only [s_50_0, s_50_1, s_50_2, s_50_3, s_50_5, s_50_6, s_50_7, s_50_8, s_50_9, s_50_10, s_50_11, s_50_12, s_50_13, s_50_14, s_50_15, s_50_16, s_50_17, s_50_18, s_50_19, s_50_20, s_50_21, s_50_22, s_50_23, s_50_24, s_50_25, s_50_26, s_50_27, s_50_28, s_50_29, s_50_30, s_50_31, s_50_32, s_50_33, s_50_34, s_50_35, s_50_36, s_50_37, s_50_38, s_50_39, s_50_40, s_50_41, s_50_42, s_50_43, s_50_44, s_50_45, s_50_46, W.oo, W.f, h1, if_true, yfold]
  | succ n ih =>
    intro g a l3 l4 hg
    have hgf : g < D.f := by omega
    have h1 : ¬ yI D.f ≤ yI g := fun h => absurd ((yI_le (by omega) (by omega)).mp h) (by omega)
    have h5 : yix (yI g) 6 := yix_I (by omega) (by omega)
    have h6 : (yI g).toNatClampNeg = g := yI_clamp (by omega)
    have h4 : yI g + 1 = yI (g + 1) := yI_add
    have hfl := yfp_last W.ok hgf
    rw [s_50_4]
    simp only [s_50_0, s_50_1, s_50_2, s_50_3, s_50_5, s_50_6, s_50_7, s_50_8, s_50_9, s_50_10, s_50_11, s_50_12, s_50_13, s_50_14, s_50_15, s_50_16, s_50_18, s_50_19, s_50_20, s_50_21, s_50_22, s_50_23, s_50_24, s_50_25, s_50_26, s_50_27, s_50_28, s_50_29, s_50_30, s_50_31, s_50_32, s_50_33, s_50_34, s_50_35, s_50_36, s_50_37, s_50_38, s_50_39, s_50_40, s_50_41, s_50_42, s_50_43, s_50_44, s_50_45, s_50_46, W.oo, W.f, h1, if_false, m_44 W hgf, Gk_v, xcat_nil, Nat.zero_le, Nat.reduceAdd, true_and, ykl_i, yAs_8 W.oo, yns_8 W.oo, h5, h6, W.fp g (show g < D.f by omega), l_50i W hgf (ylast D g + 1 - D.fp g) (D.fp g) a (by omega), ykl_r, h4, ih (g + 1) _ _ _ (show g + 1 + n = D.f by omega)]
    simp only [yfold, yflow]
theorem m_50 (W : yW t o D) : Cl (d + 4) 50 [.ref o] (yemb t) Q ↔ Q (.inl (some (.int (ycurrent D)))) (yemb t) := by
  show G (d + 4) 50 0 [some (.ref o), none, none, none, none] [] (yemb t) Q ↔ _
  simp only [s_50_0, s_50_1, s_50_2, s_50_3, ykl_i, ykl_r]
  exact l_50 W D.f 0 0 none none (Nat.zero_add _)
def yfeed (D : yD) (p : Nat) : Nat := yfold (fun g a => if D.fp g ≤ p then g else a) (D.f - 1) 1 0
theorem yfeed_lt (h : yDok D) (p : Nat) : yfeed D p < D.f := by
  have h1 := h.f1
  have : ∀ n g a, g + n ≤ D.f → a < D.f → yfold (fun g a => if D.fp g ≤ p then g else a) n g a < D.f := by
    intro n
    induction n with
    | zero => intro g a _ ha; exact ha
    | succ n ih =>
      intro g a hg ha
      simp only [yfold]
      apply ih (g + 1) _ (by omega)
      split <;> omega
  exact this _ _ _ (by omega) (by omega)
theorem yfeedF_eq (W : yW t o D) {p : Nat} (hp : p < 40) : ∀ n g a, g + n ≤ D.f → yfeedF (t.A (o + 8)) (yI p) n g (yI a) = yI (yfold (fun g a => if D.fp g ≤ p then g else a) n g a) := by
  have hf6 := W.ok.f6
  have hn40 := W.ok.n40
  intro n
  induction n with
  | zero => intro g a _; rfl
  | succ n ih =>
    intro g a hg
    have h1 := W.ok.fpn g (by omega)
    simp only [yfeedF, yfold, W.fp g (show g < D.f by omega)]
    by_cases h : D.fp g ≤ p
    · have h2 : yI (D.fp g) ≤ yI p := (yI_le (by omega) (by omega)).mpr h
      rw [if_pos h2, if_pos h]
      exact ih (g + 1) g (by omega)
    · have h2 : ¬ yI (D.fp g) ≤ yI p := fun h' => h ((yI_le (by omega) (by omega)).mp h')
      rw [if_neg h2, if_neg h]
      exact ih (g + 1) a (by omega)
theorem m_42' (W : yW t o D) {p : Nat} (hp : p < 40) : Cl d 42 [.ref o, .int (yI p)] (yemb t) Q ↔ Q (.inl (some (.int (yI (yfeed D p))))) (yemb t) := by
  have h1 := W.ok.f1
  rw [m_42 W.oo W.f W.ok.f6 h1]
  have h := yfeedF_eq W hp (D.f - 1) 1 0 (by omega)
  rw [show (0 : Int32) = yI 0 from rfl, h]
  rfl
def yshown (D : yD) (p : Nat) : Int32 := if ylit D p then yshare (D.tk p) (D.fl (yfeed D p)) (yload D (yfeed D p)) else 0
theorem m_48 (W : yW t o D) {p : Nat} (hp : p < 40) : Cl (d + 4) 48 [.ref o, .int (yI p)] (yemb t) Q ↔ Q (.inl (some (.int (yshown D p)))) (yemb t) := by
  have hf6 := W.ok.f6
  have hfe := yfeed_lt W.ok p
  have h2 : yix (yI p) 40 := yix_I (by omega) (by omega)
  have h3 : (yI p).toNatClampNeg = p := yI_clamp (by omega)
  have h5 : yix (yI (yfeed D p)) 6 := yix_I (by omega) (by omega)
  have h6 : (yI (yfeed D p)).toNatClampNeg = yfeed D p := yI_clamp (by omega)
  show G (d + 4) 48 0 [some (.ref o), some (.int (yI p)), none] [] (yemb t) Q ↔ _
  simp only [s_48_0, s_48_1, s_48_2, s_48_3, s_48_4, s_48_5, s_48_6, s_48_7, s_48_8, s_48_9, s_48_10, s_48_11, s_48_12, s_48_13, s_48_14, s_48_15, s_48_16, s_48_17, s_48_18, s_48_19, s_48_20, s_48_21, s_48_22, W.oo, m_46 W hp, m_42' W hp, m_44 W hfe, m_49, Gk_v, xcat_nil, xcat_i, xcat_r, Nat.reduceAdd, Nat.reduceLeDiff, Nat.zero_le, true_and, ifbn, ykl_i, yAs_6 W.oo, yns_6 W.oo, yAs_9 W.oo, yns_9 W.oo, h2, h3, h5, h6, W.tk p hp, W.fl (yfeed D p) (by omega)]
  unfold yshown
  cases hb : ylit D p <;> simp
end
/-! ===== the model's row ===== -/
theorem m_160 {d p : Nat} {σ : xS} {Q : xR → xS → Prop} : Cl d 160 [.int (yI p)] σ Q ↔ Q (.inl (some (.int (yI (8 + 8 * p))))) σ := by
  show G d 160 0 [some (.int (yI p))] [] σ Q ↔ _
  simp only [s_160_0, s_160_1, s_160_2, s_160_3, s_160_4, s_160_5]
  rw [show (8 : Int32) = yI 8 from rfl, yI_mul, yI_add]
theorem m_161 {d g : Nat} {σ : xS} {Q : xR → xS → Prop} : Cl d 161 [.int (yI g)] σ Q ↔ Q (.inl (some (.int (yI (328 + 2 * g))))) σ := by
  show G d 161 0 [some (.int (yI g))] [] σ Q ↔ _
  simp only [s_161_0, s_161_1, s_161_2, s_161_3, s_161_4, s_161_5]
  rw [show (328 : Int32) = yI 328 from rfl, show (2 : Int32) = yI 2 from rfl, yI_mul, yI_add]
section
variable {d : Nat} {t : yT} {D : yD} {Q : xR → xS → Prop}
theorem m_162 {p w : Nat} (hp : p < 40) (hw : w < 8) : Cl (d + 1) 162 [.ref 160, .int (yI p), .int (yI w)] (yemb t) Q ↔ Q (.inl (some (.int (t.A 162 (8 + 8 * p + w))))) (yemb t) := by
  have h2 : yix (yI (8 + 8 * p + w)) 1540 := yix_I (by omega) (by omega)
  have h3 : (yI (8 + 8 * p + w)).toNatClampNeg = 8 + 8 * p + w := yI_clamp (by omega)
  show G (d + 1) 162 0 [some (.ref 160), some (.int (yI p)), some (.int (yI w))] [] (yemb t) Q ↔ _
  simp only [s_162_0, s_162_1, s_162_2, s_162_3, s_162_4, s_162_5, s_162_6, s_162_7, yO_160, yA_162, yn_162, m_160, Gk_v, xcat_nil, xcat_i, xcat_r, Nat.reduceAdd, Nat.reduceLeDiff, true_and, yI_add, h2, h3]
theorem m_163 {p w : Nat} {v : Int32} (hp : p < 40) (hw : w < 8) : Cl (d + 1) 163 [.ref 160, .int (yI p), .int (yI w), .int v] (yemb t) Q ↔ Q (.inl none) (yemb (t.s1 162 (8 + 8 * p + w) v)) := by
  have h2 : yix (yI (8 + 8 * p + w)) 1540 := yix_I (by omega) (by omega)
  have h3 : (yI (8 + 8 * p + w)).toNatClampNeg = 8 + 8 * p + w := yI_clamp (by omega)
  show G (d + 1) 163 0 [some (.ref 160), some (.int (yI p)), some (.int (yI w)), some (.int v)] [] (yemb t) Q ↔ _
  simp only [s_163_0, s_163_1, s_163_2, s_163_3, s_163_4, s_163_5, s_163_6, s_163_7, s_163_8, yO_160, yA_162, yn_162, m_160, Gk_v, xcat_nil, xcat_i, xcat_r, Nat.reduceAdd, Nat.reduceLeDiff, true_and, yI_add, h2, h3]
theorem yI0 : (0 : Int32) = yI 0 := rfl
theorem yI1 : (1 : Int32) = yI 1 := rfl
theorem yI2 : (2 : Int32) = yI 2 := rfl
theorem yI3 : (3 : Int32) = yI 3 := rfl
theorem yI4 : (4 : Int32) = yI 4 := rfl
theorem yI5 : (5 : Int32) = yI 5 := rfl
theorem yI6 : (6 : Int32) = yI 6 := rfl
theorem yI7 : (7 : Int32) = yI 7 := rfl
theorem mo_kd (M : yM (t.A 162) D) {p : Nat} (hp : p < 40) : Cl (d + 1) 162 [.ref 160, .int (yI p), .int 0] (yemb t) Q ↔ Q (.inl (some (.int (D.kd p)))) (yemb t) := by
  rw [yI0, m_162 hp (by omega), M.kd p hp]
theorem mo_bp (M : yM (t.A 162) D) {p : Nat} (hp : p < 40) : Cl (d + 1) 162 [.ref 160, .int (yI p), .int 1] (yemb t) Q ↔ Q (.inl (some (.int (yb (D.bp p))))) (yemb t) := by
  rw [yI1, m_162 hp (by omega), M.bp p hp]
theorem mo_pd (M : yM (t.A 162) D) {p : Nat} (hp : p < 40) : Cl (d + 1) 162 [.ref 160, .int (yI p), .int 2] (yemb t) Q ↔ Q (.inl (some (.int (D.pd p)))) (yemb t) := by
  rw [yI2, m_162 hp (by omega), M.pd p hp]
theorem mo_fr (M : yM (t.A 162) D) {p : Nat} (hp : p < 40) : Cl (d + 1) 162 [.ref 160, .int (yI p), .int 3] (yemb t) Q ↔ Q (.inl (some (.int (D.fr p)))) (yemb t) := by
  rw [yI3, m_162 hp (by omega), M.fr p hp]
theorem mo_tk (M : yM (t.A 162) D) {p : Nat} (hp : p < 40) : Cl (d + 1) 162 [.ref 160, .int (yI p), .int 4] (yemb t) Q ↔ Q (.inl (some (.int (D.tk p)))) (yemb t) := by
  rw [yI4, m_162 hp (by omega), M.tk p hp]
theorem mo_du (M : yM (t.A 162) D) {p : Nat} (hp : p < 40) : Cl (d + 1) 162 [.ref 160, .int (yI p), .int 5] (yemb t) Q ↔ Q (.inl (some (.int (D.du p)))) (yemb t) := by
  rw [yI5, m_162 hp (by omega), M.du p hp]
theorem mo_og (M : yM (t.A 162) D) {p : Nat} (hp : p < 40) : Cl (d + 1) 162 [.ref 160, .int (yI p), .int 6] (yemb t) Q ↔ Q (.inl (some (.int (D.og p)))) (yemb t) := by
  rw [yI6, m_162 hp (by omega), M.og p hp]
theorem mo_fm (M : yM (t.A 162) D) {p : Nat} (hp : p < 40) : Cl (d + 1) 162 [.ref 160, .int (yI p), .int 7] (yemb t) Q ↔ Q (.inl (some (.int (D.fm p)))) (yemb t) := by
  rw [yI7, m_162 hp (by omega), M.fm p hp]
theorem m_164 (M : yM (t.A 162) D) {p : Nat} (hp : p < 40) : Cl (d + 2) 164 [.ref 160, .int (yI p)] (yemb t) Q ↔ Q (.inl (some (.int (yb (ylit D p))))) (yemb t) := by
  show G (d + 2) 164 0 [some (.ref 160), some (.int (yI p))] [] (yemb t) Q ↔ _
  simp only [s_164_0, s_164_1, s_164_2, s_164_3, s_164_4, s_164_5, s_164_6, s_164_7, s_164_8, s_164_9, s_164_10, s_164_11, s_164_12, s_164_13, s_164_14, s_164_15, s_164_16, s_164_17, s_164_18, s_164_19, yO_160, mo_kd M hp, mo_bp M hp, Gk_v, xcat_nil, xcat_i, xcat_r, Nat.reduceAdd, Nat.reduceLeDiff, Nat.zero_le, true_and, ybo_0, ybo_1]
  unfold ylit
  by_cases h0 : D.kd p = 0
  · cases hb : D.bp p <;> simp [h0, yb]
  · by_cases h1 : D.kd p = 3
    · cases hb : D.bp p <;> simp [h1, yb]
    · cases hb : D.bp p <;> simp [h0, h1, yb]
theorem m_167 (M : yM (t.A 162) D) {c : Int32} : Cl d 167 [.ref 160, .int c] (yemb t) Q ↔ Q (.inl (some (.int (ycur D.un c)))) (yemb t) := by
  have h2 : yix 1 1540 := yix_I (n := 1) (by omega) (by omega)
  have h : ¬ (765 : Int32) = 0 := by decide
  have h3 : (1 : Int32).toNatClampNeg = 1 := rfl
  show G d 167 0 [some (.ref 160), some (.int c)] [] (yemb t) Q ↔ _
  simp only [s_167_0, s_167_1, s_167_2, s_167_3, s_167_4, s_167_5, s_167_6, s_167_7, s_167_8, s_167_9, s_167_10, s_167_11, s_167_12, s_167_13, s_167_14, s_167_15, s_167_16, s_167_17, s_167_18, s_167_19, s_167_20, s_167_21, s_167_22, yO_160, yA_162, yn_162, h2, h3, h, not_false_eq_true, M.un, true_and]
  rfl
end
/-! ===== the model: loads and what is wrong ===== -/
section
variable {d : Nat} {t : yT} {D : yD} {Q : xR → xS → Prop}
theorem yix0 : yix 0 1540 := yix_I (n := 0) (by omega) (by omega)
theorem yix1 : yix 1 1540 := yix_I (n := 1) (by omega) (by omega)
theorem yix2 : yix 2 1540 := yix_I (n := 2) (by omega) (by omega)
theorem yix3 : yix 3 1540 := yix_I (n := 3) (by omega) (by omega)
theorem ycl0 : (0 : Int32).toNatClampNeg = 0 := rfl
theorem ycl1 : (1 : Int32).toNatClampNeg = 1 := rfl
theorem ycl2 : (2 : Int32).toNatClampNeg = 2 := rfl
theorem ycl3 : (3 : Int32).toNatClampNeg = 3 := rfl
theorem m_165 (M : yM (t.A 162) D) {g : Nat} (hg : g < D.f) : Cl (d + 1) 165 [.ref 160, .int (yI g)] (yemb t) Q ↔ Q (.inl (some (.int (yI (ylast D g))))) (yemb t) := by
  have hf6 := M.ok.f6
  have hn1 := M.ok.n1
  have hn40 := M.ok.n40
  have e1 : yI g + 1 = yI (g + 1) := yI_add
  show G (d + 1) 165 0 [some (.ref 160), some (.int (yI g))] [] (yemb t) Q ↔ _
  by_cases h : g + 1 < D.f
  · have h1 : ¬ yI D.f ≤ yI (g + 1) := fun h' => absurd ((yI_le (by omega) (by omega)).mp h') (by omega)
    have h2 : yix (yI (328 + 2 * (g + 1))) 1540 := yix_I (by omega) (by omega)
    have h3 : (yI (328 + 2 * (g + 1))).toNatClampNeg = 328 + 2 * (g + 1) := yI_clamp (by omega)
    have h5 := M.ok.fpm g h
    simp only [s_165_0, s_165_1, s_165_2, s_165_3, s_165_4, s_165_5, s_165_6, s_165_7, s_165_8, s_165_9, s_165_10, s_165_11, s_165_12, s_165_13, s_165_14, s_165_15, s_165_16, s_165_17, s_165_18, s_165_19, s_165_20, s_165_21, s_165_22, s_165_23, s_165_24, yO_160, yA_162, yn_162, yix3, ycl3, M.f, e1, h1, if_false, m_161, Gk_v, xcat_nil, xcat_i, xcat_r, Nat.reduceAdd, Nat.reduceLeDiff, h2, h3, true_and, M.fp (g + 1) (by omega), yI_sub1 (show 1 ≤ D.fp (g + 1) by omega)]
    rw [ylast, if_pos h]
  · have h1 : yI D.f ≤ yI (g + 1) := (yI_le (by omega) (by omega)).mpr (by omega)
    simp only [s_165_0, s_165_1, s_165_2, s_165_3, s_165_4, s_165_5, s_165_6, s_165_7, s_165_8, s_165_9, s_165_10, s_165_11, s_165_12, s_165_13, s_165_14, s_165_15, s_165_16, s_165_17, s_165_18, s_165_19, s_165_20, s_165_21, s_165_22, s_165_23, s_165_24, yO_160, yA_162, yn_162, yix3, ycl3, yix0, ycl0, M.f, e1, h1, if_true, M.n, yI_sub1 hn1, true_and]
    rw [ylast, if_neg h]
theorem l_168 (M : yM (t.A 162) D) {g : Nat} (hg : g < D.f) : ∀ n p a, p + n = ylast D g + 1 → (G (d + 3) 168 8 [some (.ref 160), some (.int (yI g)), some (.int a), some (.int (yI p))] [] (yemb t) Q ↔ Q (.inl (some (.int (yfold (fun p a => if ylit D p then a + ycur D.un (D.tk p) else a) n p a)))) (yemb t)) := by
  have hn40 := M.ok.n40
  have hl := ylast_lt M.ok hg
  intro n
  induction n with
  | zero =>
    intro p a hp
    have h1 : yI (ylast D g) < yI p := (yI_lt (by omega) (by omega)).mpr (by omega)
    rw [s_168_8]
    simp only [s_168_0, s_168_1, s_168_2, s_168_3, s_168_4, s_168_5, s_168_6, s_168_7, s_168_9, s_168_10, s_168_11, s_168_12, s_168_13, s_168_14, s_168_15, s_168_16, s_168_17, s_168_18, s_168_19, s_168_20, s_168_21, s_168_22, s_168_23, s_168_24, s_168_25, s_168_26, s_168_27, s_168_28, s_168_29, s_168_30, s_168_31, yO_160, m_165 M hg, Gk_v, xcat_nil, xcat_i, Nat.reduceAdd, Nat.reduceLeDiff, true_and, h1, if_true, yfold]
  | succ n ih =>
    intro p a hp
    have h1 : ¬ yI (ylast D g) < yI p := fun h => absurd ((yI_lt (by omega) (by omega)).mp h) (by omega)
    have h4 : yI p + 1 = yI (p + 1) := yI_add
    rw [s_168_8]
    simp only [s_168_0, s_168_1, s_168_2, s_168_3, s_168_4, s_168_5, s_168_6, s_168_7, s_168_9, s_168_10, s_168_11, s_168_12, s_168_13, s_168_14, s_168_15, s_168_16, s_168_17, s_168_18, s_168_19, s_168_20, s_168_21, s_168_22, s_168_23, s_168_24, s_168_25, s_168_26, s_168_27, s_168_28, s_168_29, s_168_30, s_168_31, yO_160, m_165 M hg, m_164 M (show p < 40 by omega), mo_tk M (show p < 40 by omega), m_167 M, Gk_v, xcat_nil, xcat_i, xcat_r, Nat.reduceAdd, Nat.reduceLeDiff, true_and, h1, if_false, ifb, ykl_i, h4, ih (p + 1) _ (show p + 1 + n = ylast D g + 1 by omega)]
    simp only [yfold]
    cases hb : ylit D p <;> simp
theorem m_168 (M : yM (t.A 162) D) {g : Nat} (hg : g < D.f) : Cl (d + 3) 168 [.ref 160, .int (yI g)] (yemb t) Q ↔ Q (.inl (some (.int (yload D g)))) (yemb t) := by
  have hf6 := M.ok.f6
  have hfl := yfp_last M.ok hg
  have h2 : yix (yI (328 + 2 * g)) 1540 := yix_I (by omega) (by omega)
  have h3 : (yI (328 + 2 * g)).toNatClampNeg = 328 + 2 * g := yI_clamp (by omega)
  show G (d + 3) 168 0 [some (.ref 160), some (.int (yI g)), none, none] [] (yemb t) Q ↔ _
  simp only [s_168_0, s_168_1, s_168_2, s_168_3, s_168_4, s_168_5, s_168_6, s_168_7, ykl_i, yO_160, yA_162, yn_162, m_161, Gk_v, xcat_nil, xcat_i, xcat_r, Nat.reduceAdd, Nat.reduceLeDiff, h2, h3, true_and, M.fp g (show g < D.f by omega)]
  exact l_168 M hg _ _ _ (by omega)
theorem m_169 (M : yM (t.A 162) D) {g : Nat} (hg : g < D.f) : Cl (d + 4) 169 [.ref 160, .int (yI g)] (yemb t) Q ↔ Q (.inl (some (.int (yb (decide (D.fl g < yload D g)))))) (yemb t) := by
  have hf6 := M.ok.f6
  have h2 : yix (yI (328 + 2 * g + 1)) 1540 := yix_I (by omega) (by omega)
  have h3 : (yI (328 + 2 * g + 1)).toNatClampNeg = 328 + 2 * g + 1 := yI_clamp (by omega)
  have e1 : yI (328 + 2 * g) + 1 = yI (328 + 2 * g + 1) := yI_add
  show G (d + 4) 169 0 [some (.ref 160), some (.int (yI g))] [] (yemb t) Q ↔ _
  simp only [s_169_0, s_169_1, s_169_2, s_169_3, s_169_4, s_169_5, s_169_6, s_169_7, s_169_8, s_169_9, s_169_10, s_169_11, s_169_12, s_169_13, s_169_14, yO_160, yA_162, yn_162, m_161, m_168 M hg, Gk_v, xcat_nil, xcat_i, xcat_r, Nat.reduceAdd, Nat.reduceLeDiff, h2, h3, e1, true_and, M.fl g (show g < D.f by omega), ybo_0, ybo_1]
  by_cases h : D.fl g < yload D g
  · have h' : ¬ yload D g ≤ D.fl g := Int32.not_le.mpr h
    simp [h, h', yb]
  · have h' : yload D g ≤ D.fl g := Int32.not_lt.mp h
    simp [h, h', yb]
theorem m_172 (M : yM (t.A 162) D) {p : Nat} (hp : p < 40) : Cl (d + 2) 172 [.ref 160, .int (yI p)] (yemb t) Q ↔ Q (.inl (some (.int (yb (ywrong D p))))) (yemb t) := by
  show G (d + 2) 172 0 [some (.ref 160), some (.int (yI p))] [] (yemb t) Q ↔ _
  simp only [s_172_0, s_172_1, s_172_2, s_172_3, s_172_4, s_172_5, s_172_6, s_172_7, s_172_8, s_172_9, s_172_10, s_172_11, s_172_12, s_172_13, s_172_14, s_172_15, s_172_16, s_172_17, s_172_18, s_172_19, s_172_20, s_172_21, s_172_22, s_172_23, s_172_24, s_172_25, s_172_26, s_172_27, s_172_28, s_172_29, yO_160, mo_kd M hp, mo_bp M hp, mo_tk M hp, mo_du M hp, Gk_v, xcat_nil, xcat_i, xcat_r, Nat.reduceAdd, Nat.reduceLeDiff, Nat.zero_le, true_and, ybo_0, ybo_1]
  unfold ywrong yout
  by_cases h0 : D.kd p = 1
  · cases hb : D.bp p <;> simp [h0, yb]
  · by_cases h1 : D.kd p = 2
    · cases hb : D.bp p <;> simp [h1, yb]
    · cases hb : D.bp p <;> by_cases h2 : D.tk p = D.du p <;> simp [h0, h1, h2, yb]
theorem l_173 (M : yM (t.A 162) D) : ∀ n p a, p + n = D.n → (G (d + 3) 173 4 [some (.ref 160), some (.int a), some (.int (yI p))] [] (yemb t) Q ↔ Q (.inl (some (.int (yfold (fun p a => if ywrong D p then a + 1 else a) n p a)))) (yemb t)) := by
  have hn40 := M.ok.n40
  intro n
  induction n with
  | zero =>
    intro p a hp
    have h1 : yI D.n ≤ yI p := (yI_le (by omega) (by omega)).mpr (by omega)
    rw [s_173_4]
    simp only [s_173_0, s_173_1, s_173_2, s_173_3, s_173_5, s_173_6, s_173_7, s_173_8, s_173_9, s_173_10, s_173_11, s_173_12, s_173_13, s_173_14, s_173_15, s_173_16, s_173_17, s_173_18, s_173_19, s_173_20, s_173_21, s_173_22, s_173_23, yO_160, yA_162, yn_162, yix0, ycl0, M.n, h1, if_true, yfold, true_and]
  | succ n ih =>
    intro p a hp
    have h1 : ¬ yI D.n ≤ yI p := fun h => absurd ((yI_le (by omega) (by omega)).mp h) (by omega)
    have h4 : yI p + 1 = yI (p + 1) := yI_add
    rw [s_173_4]
    simp only [s_173_0, s_173_1, s_173_2, s_173_3, s_173_5, s_173_6, s_173_7, s_173_8, s_173_9, s_173_10, s_173_11, s_173_12, s_173_13, s_173_14, s_173_15, s_173_16, s_173_17, s_173_18, s_173_19, s_173_20, s_173_21, s_173_22, s_173_23, yO_160, yA_162, yn_162, yix0, ycl0, M.n, m_172 M (show p < 40 by omega), Gk_v, xcat_nil, xcat_i, xcat_r, Nat.reduceAdd, Nat.reduceLeDiff, Nat.zero_le, true_and, h1, if_false, ifb, ykl_i, ykl_r, h4, ih (p + 1) _ (show p + 1 + n = D.n by omega)]
    simp only [yfold]
    cases hb : ywrong D p <;> simp
theorem m_173 (M : yM (t.A 162) D) : Cl (d + 3) 173 [.ref 160] (yemb t) Q ↔ Q (.inl (some (.int (ywrongs D)))) (yemb t) := by
  show G (d + 3) 173 0 [some (.ref 160), none, none] [] (yemb t) Q ↔ _
  simp only [s_173_0, s_173_1, s_173_2, s_173_3, ykl_i, ykl_r]
  exact l_173 M D.n 0 0 (Nat.zero_add _)
end
/-! ===== the feed of a pixel, on both sides ===== -/
theorem yfp_mono {D : yD} (h : yDok D) : ∀ b a, a < b → b < D.f → D.fp a < D.fp b := by
  intro b
  induction b with
  | zero => intro a ha; omega
  | succ b ih =>
    intro a ha hb
    have h1 := h.fpm b hb
    by_cases e : a = b
    · subst e
      exact h1
    · have := ih a (by omega) (by omega)
      omega
theorem yfeed_inv {D : yD} (h : yDok D) (p : Nat) : ∀ n i a, i + n = D.f → a < i → D.fp a ≤ p → (∀ g, a < g → g < i → p < D.fp g) → D.fp (yfold (fun g a => if D.fp g ≤ p then g else a) n i a) ≤ p ∧ (∀ g, yfold (fun g a => if D.fp g ≤ p then g else a) n i a < g → g < D.f → p < D.fp g) := by
  intro n
  induction n with
  | zero =>
    intro i a hi ha h1 h2
    exact ⟨h1, fun g hg1 hg2 => h2 g hg1 (by omega)⟩
  | succ n ih =>
    intro i a hi ha h1 h2
    simp only [yfold]
    by_cases hc : D.fp i ≤ p
    · rw [if_pos hc]
      exact ih (i + 1) i (by omega) (by omega) hc (fun g hg1 hg2 => by omega)
    · rw [if_neg hc]
      refine ih (i + 1) a (by omega) (by omega) h1 (fun g hg1 hg2 => ?_)
      by_cases e : g = i
      · subst e
        omega
      · exact h2 g hg1 (by omega)
theorem yfeed_spec {D : yD} (h : yDok D) {p : Nat} (hp : p < D.n) : D.fp (yfeed D p) ≤ p ∧ p ≤ ylast D (yfeed D p) := by
  have hf1 := h.f1
  have h0 := yfeed_inv h p (D.f - 1) 1 0 (by omega) (by omega) (by rw [h.fp0]; omega) (fun g hg1 hg2 => by omega)
  refine ⟨h0.1, ?_⟩
  unfold ylast
  split
  · rename_i h1
    have := h0.2 (yfeed D p + 1) (Nat.lt_succ_self _) h1
    omega
  · omega
theorem ylast_lt_feed {D : yD} (h : yDok D) {p g : Nat} (hp : p < D.n) (hg : g < yfeed D p) : ylast D g < p := by
  have h1 := yfeed_lt h p
  have h2 := (yfeed_spec h hp).1
  have h3 := h.fpm g (by omega)
  unfold ylast
  rw [if_pos (by omega)]
  by_cases e : g + 1 = yfeed D p
  · rw [e] at h3 ⊢
    omega
  · have := yfp_mono h (yfeed D p) (g + 1) (by omega) h1
    omega
theorem yfeed_of {D : yD} (h : yDok D) {p g : Nat} (hg : g < D.f) (h1 : D.fp g ≤ p) (h2 : p ≤ ylast D g) : yfeed D p = g := by
  have hp : p < D.n := by
    have := ylast_lt h hg
    omega
  have h3 := yfeed_spec h hp
  have h4 := yfeed_lt h p
  rcases Nat.lt_trichotomy (yfeed D p) g with hh | hh | hh
  · exfalso
    have h5 := yfp_mono h g (yfeed D p) hh hg
    have h6 : D.fp (yfeed D p + 1) ≤ D.fp g := by
      by_cases e : yfeed D p + 1 = g
      · rw [e]
        exact Nat.le_refl _
      · have := yfp_mono h g (yfeed D p + 1) (by omega) hg
        omega
    have h7 := h3.2
    have h8 := h.fpm (yfeed D p) (by omega)
    unfold ylast at h7
    rw [if_pos (by omega)] at h7
    omega
  · exact hh
  · have := ylast_lt_feed h hp hh
    omega
section
variable {d : Nat} {t : yT} {D : yD} {Q : xR → xS → Prop}
theorem l_166 (M : yM (t.A 162) D) {p : Nat} (hp : p < D.n) : ∀ n g, g + n = yfeed D p → (G (d + 2) 166 2 [some (.ref 160), some (.int (yI p)), some (.int (yI g))] [] (yemb t) Q ↔ Q (.inl (some (.int (yI (yfeed D p))))) (yemb t)) := by
  have hn40 := M.ok.n40
  have hfe := yfeed_lt M.ok p
  have hsp := yfeed_spec M.ok hp
  intro n
  induction n with
  | zero =>
    intro g hg
    have hl := ylast_lt M.ok hfe
    have e : g = yfeed D p := by omega
    subst e
    have h1 : yI p ≤ yI (ylast D (yfeed D p)) := (yI_le (by omega) (by omega)).mpr hsp.2
    rw [s_166_2]
    simp only [s_166_0, s_166_1, s_166_3, s_166_4, s_166_5, s_166_6, s_166_7, s_166_8, s_166_9, s_166_10, yO_160, m_165 M hfe, Gk_v, xcat_nil, xcat_i, xcat_r, Nat.reduceAdd, Nat.reduceLeDiff, true_and, h1, if_true]
  | succ n ih =>
    intro g hg
    have hl := ylast_lt_feed M.ok hp (show g < yfeed D p by omega)
    have h1 : ¬ yI p ≤ yI (ylast D g) := fun h => absurd ((yI_le (by omega) (by omega)).mp h) (by omega)
    have h4 : yI g + 1 = yI (g + 1) := yI_add
    rw [s_166_2]
    simp only [s_166_0, s_166_1, s_166_3, s_166_4, s_166_5, s_166_6, s_166_7, s_166_8, s_166_9, s_166_10, yO_160, m_165 M (show g < D.f by omega), Gk_v, xcat_nil, xcat_i, xcat_r, Nat.reduceAdd, Nat.reduceLeDiff, true_and, h1, if_false, ykl_i, h4, ih (g + 1) (by omega)]
theorem m_166 (M : yM (t.A 162) D) {p : Nat} (hp : p < D.n) : Cl (d + 2) 166 [.ref 160, .int (yI p)] (yemb t) Q ↔ Q (.inl (some (.int (yI (yfeed D p))))) (yemb t) := by
  show G (d + 2) 166 0 [some (.ref 160), some (.int (yI p)), none] [] (yemb t) Q ↔ _
  simp only [s_166_0, s_166_1, ykl_i]
  exact l_166 M hp (yfeed D p) 0 (Nat.zero_add _)
end
/-- the current, pixel by pixel -/
def yflat (D : yD) : Int32 := yfold (fun p a => a + ycur D.un (yshown D p)) D.n 0 0
theorem yfold_add {α : Type} {h : Nat → α → α} : ∀ (m n i : Nat) (a : α), yfold h (m + n) i a = yfold h n (i + m) (yfold h m i a) := by
  intro m
  induction m with
  | zero => intro n i a; simp [yfold]
  | succ m ih =>
    intro n i a
    rw [show m + 1 + n = (m + n) + 1 by omega]
    simp only [yfold]
    rw [ih n (i + 1) (h i a), show i + 1 + m = i + (m + 1) by omega]
theorem ycur0 {un : Int32} : ycur un 0 = 0 := by
  unfold ycur
  rw [show ((((0 : Int32) >>> ((16 : Int32) &&& 31)) &&& 255) + (((0 : Int32) >>> ((8 : Int32) &&& 31)) &&& 255) + ((0 : Int32) &&& 255)) = 0 from by decide, Int32.zero_mul]
  decide
theorem yflow_flat {D : yD} (h : yDok D) {g : Nat} (hg : g < D.f) (a : Int32) : yflow D g a = yfold (fun p a => a + ycur D.un (yshown D p)) (ylast D g + 1 - D.fp g) (D.fp g) a := by
  unfold yflow
  have hl := yfp_last h hg
  apply yfold_congr
  intro p b h1 h2
  have hf := yfeed_of h hg h1 (by omega)
  unfold yshown
  rw [hf]
  cases hb : ylit D p
  · simp [ycur0]
  · simp
theorem ycurrent_flat {D : yD} (h : yDok D) : ycurrent D = yflat D := by
  have key : ∀ n g, g + n = D.f → 1 ≤ n → ∀ a, yfold (fun g a => yflow D g a) n g a = yfold (fun p a => a + ycur D.un (yshown D p)) (D.n - D.fp g) (D.fp g) a := by
    intro n
    induction n with
    | zero => intro g _ h1; omega
    | succ n ih =>
      intro g hg _ a
      have hgf : g < D.f := by omega
      have hl := yfp_last h hgf
      have hln := ylast_lt h hgf
      simp only [yfold]
      rw [yflow_flat h hgf]
      by_cases hn : n = 0
      · subst hn
        have : ylast D g = D.n - 1 := by
          unfold ylast
          rw [if_neg (by omega)]
        have e : ylast D g + 1 - D.fp g = D.n - D.fp g := by omega
        rw [e]
        rfl
      · have hl2 : ylast D g = D.fp (g + 1) - 1 := by
          unfold ylast
          rw [if_pos (by omega)]
        have hm := h.fpm g (by omega)
        have hn2 := h.fpn (g + 1) (by omega)
        rw [ih (g + 1) (by omega) (by omega)]
        have e1 : ylast D g + 1 - D.fp g = D.fp (g + 1) - D.fp g := by omega
        have e2 : D.n - D.fp g = (D.fp (g + 1) - D.fp g) + (D.n - D.fp (g + 1)) := by omega
        rw [e1, e2, yfold_add, show D.fp g + (D.fp (g + 1) - D.fp g) = D.fp (g + 1) by omega]
  unfold ycurrent yflat
  rw [key D.f 0 (Nat.zero_add _) h.f1 0, h.fp0]
  rfl
/-! ===== colors ===== -/
theorem yand255 (x : Int32) : ∃ m, m < 256 ∧ x &&& 255 = yI m := by
  refine ⟨x.toBitVec.toNat % 256, Nat.mod_lt _ (by decide), ?_⟩
  apply Int32.toBitVec_inj.mp
  apply BitVec.eq_of_toNat_eq
  have h : (255 : Int32).toBitVec.toNat = 2 ^ 8 - 1 := rfl
  rw [Int32.toBitVec_and, BitVec.toNat_and, h, Nat.and_two_pow_sub_one_eq_mod]
  show _ = (BitVec.ofNat 32 (x.toBitVec.toNat % 256)).toNat
  rw [BitVec.toNat_ofNat, Nat.mod_eq_of_lt (a := x.toBitVec.toNat % 256) (b := 2 ^ 32)]
  omega
theorem yI_nat (n : Nat) : (yI n).toBitVec = BitVec.ofNat 32 n := rfl
theorem yrgb_nat {r g b : Nat} (hr : r < 256) (hg : g < 256) (hb : b < 256) : yrgb (yI r) (yI g) (yI b) = yI (65536 * r + 256 * g + b) := by
  unfold yrgb
  apply Int32.toBitVec_inj.mp
  apply BitVec.eq_of_toNat_eq
  have e16 : ((16 : Int32) &&& 31) = 16 := by decide
  have e8 : ((8 : Int32) &&& 31) = 8 := by decide
  rw [e16, e8, Int32.toBitVec_or, Int32.toBitVec_or, Int32.toBitVec_shiftLeft, Int32.toBitVec_shiftLeft]
  have s16 : ((16 : Int32).toBitVec.smod 32#32) = 16#32 := by decide
  have s8 : ((8 : Int32).toBitVec.smod 32#32) = 8#32 := by decide
  simp only [BitVec.toNat_or, yI_nat]
  rw [show ((16 : Int32).toBitVec.smod 32) = 16#32 from by decide, show ((8 : Int32).toBitVec.smod 32) = 8#32 from by decide]
  rw [BitVec.shiftLeft_eq', BitVec.shiftLeft_eq', BitVec.toNat_shiftLeft, BitVec.toNat_shiftLeft]
  simp only [BitVec.toNat_ofNat]
  rw [Nat.mod_eq_of_lt (a := r) (by omega), Nat.mod_eq_of_lt (a := g) (by omega), Nat.mod_eq_of_lt (a := b) (by omega)]
  have h16 : (16 % 2 ^ 32 : Nat) = 16 := by decide
  have h8 : (8 % 2 ^ 32 : Nat) = 8 := by decide
  rw [h16, h8, Nat.shiftLeft_eq, Nat.shiftLeft_eq, Nat.mod_eq_of_lt (a := r * 2 ^ 16) (by omega), Nat.mod_eq_of_lt (a := g * 2 ^ 8) (by omega), Nat.mod_eq_of_lt (a := 65536 * r + 256 * g + b) (by omega)]
  have a1 : r * 2 ^ 16 ||| g * 2 ^ 8 = r * 2 ^ 16 + g * 2 ^ 8 := by
    rw [← Nat.shiftLeft_eq r 16, ← Nat.shiftLeft_add_eq_or_of_lt (by omega)]
  have a2 : (r * 2 ^ 16 + g * 2 ^ 8) ||| b = r * 2 ^ 16 + g * 2 ^ 8 + b := by
    have e : r * 2 ^ 16 + g * 2 ^ 8 = (r * 2 ^ 8 + g) <<< 8 := by
      rw [Nat.shiftLeft_eq]
      omega
    rw [e, ← Nat.shiftLeft_add_eq_or_of_lt (by omega)]
  rw [a1, a2]
  omega
theorem yI_div {a b : Nat} (ha : a < 2147483648) (hb : b < 2147483648) : yI a / yI b = yI (a / b) := by
  apply Int32.toInt_inj.mp
  have h1 : a / b ≤ a := Nat.div_le_self a b
  have hne : yI a ≠ Int32.minValue := by
    intro h
    have := congrArg Int32.toInt h
    rw [yI_toInt ha, Int32.toInt_minValue] at this
    omega
  rw [Int32.toInt_div_of_ne_left (yI a) (yI b) hne, yI_toInt ha, yI_toInt hb, yI_toInt (by omega)]
  rfl
def ycolor (r g b : Int32) : Int32 := 65536 * r + 256 * g + b
theorem ycolor_nat {r g b : Nat} : ycolor (yI r) (yI g) (yI b) = yI (65536 * r + 256 * g + b) := by
  unfold ycolor
  rw [show (65536 : Int32) = yI 65536 from rfl, show (256 : Int32) = yI 256 from rfl, yI_mul, yI_mul, yI_add, yI_add]
/-- a share of a channel -/
theorem yshare_ch {m lim ld : Nat} (hm : m < 256) (hl : lim < 10000) (h : lim < ld) (hd : ld < 2147483648) : ∃ s, s < 256 ∧ yI m * yI lim / yI ld = yI s := by
  refine ⟨m * lim / ld, ?_, ?_⟩
  · have h1 : m * lim ≤ m * ld := Nat.mul_le_mul_left m (by omega)
    have h2 : m * lim / ld ≤ m := by
      apply Nat.div_le_of_le_mul
      rw [Nat.mul_comm ld m]
      exact h1
    omega
  · have h1 : m * lim ≤ 255 * 9999 := Nat.mul_le_mul (by omega) (by omega)
    rw [yI_mul, yI_div (by omega) hd]
/-! ===== the model: shown colors, the current ===== -/
theorem yshare_color {c ld : Int32} {l : Nat} (hl : l < 10000) (h : yI l < ld) : yshare c (yI l) ld = ycolor (((c >>> ((16 : Int32) &&& 31)) &&& 255) * yI l / ld) (((c >>> ((8 : Int32) &&& 31)) &&& 255) * yI l / ld) ((c &&& 255) * yI l / ld) := by
  have h0 : ¬ ld < 0 := by
    intro h1
    have h2 := Int32.lt_iff_toInt_lt.mp h
    have h3 := Int32.lt_iff_toInt_lt.mp h1
    rw [yI_toInt (by omega)] at h2
    have h4 : (0 : Int32).toInt = 0 := rfl
    omega
  obtain ⟨n, hn, rfl⟩ := yI_of h0
  have hln := (yI_lt (by omega) hn).mp h
  have h1 : ¬ (yI n ≤ yI l ∨ yI n ≤ 0) := by
    rintro (h1 | h1)
    · exact absurd ((yI_le hn (by omega)).mp h1) (by omega)
    · exact absurd ((yI_le (m := 0) hn (by omega)).mp h1) (by omega)
  unfold yshare
  rw [if_neg h1]
  obtain ⟨a, ha, ea⟩ := yand255 (c >>> ((16 : Int32) &&& 31))
  obtain ⟨b, hb, eb⟩ := yand255 (c >>> ((8 : Int32) &&& 31))
  obtain ⟨e, he, ee⟩ := yand255 c
  rw [ea, eb, ee]
  obtain ⟨a', ha', ea'⟩ := yshare_ch ha hl hln hn
  obtain ⟨b', hb', eb'⟩ := yshare_ch hb hl hln hn
  obtain ⟨e', he', ee'⟩ := yshare_ch he hl hln hn
  rw [ea', eb', ee', yrgb_nat ha' hb' he', ycolor_nat]
theorem m_146 {d : Nat} {r g b : Int32} {σ : xS} {Q : xR → xS → Prop} : Cl d 146 [.int r, .int g, .int b] σ Q ↔ Q (.inl (some (.int (ycolor r g b)))) σ := by
  show G d 146 0 [some (.int r), some (.int g), some (.int b)] [] σ Q ↔ _
  simp only [s_146_0, s_146_1, s_146_2, s_146_3, s_146_4, s_146_5, s_146_6, s_146_7, s_146_8, s_146_9]
  rfl
section
variable {d : Nat} {t : yT} {D : yD} {Q : xR → xS → Prop}
theorem m_170 (M : yM (t.A 162) D) {p : Nat} (hp : p < D.n) : Cl (d + 5) 170 [.ref 160, .int (yI p)] (yemb t) Q ↔ Q (.inl (some (.int (yshown D p)))) (yemb t) := by
  have hn40 := M.ok.n40
  have hf6 := M.ok.f6
  have hfe := yfeed_lt M.ok p
  obtain ⟨l, hl, el⟩ := M.ok.fll _ hfe
  have h2 : yix (yI (328 + 2 * yfeed D p + 1)) 1540 := yix_I (by omega) (by omega)
  have h3 : (yI (328 + 2 * yfeed D p + 1)).toNatClampNeg = 328 + 2 * yfeed D p + 1 := yI_clamp (by omega)
  have e1 : yI (328 + 2 * yfeed D p) + 1 = yI (328 + 2 * yfeed D p + 1) := yI_add
  show G (d + 5) 170 0 [some (.ref 160), some (.int (yI p)), none, none, none, none] [] (yemb t) Q ↔ _
  unfold yshown
  cases hb : ylit D p
  · simp only [s_170_0, s_170_1, s_170_2, s_170_3, s_170_4, s_170_5, s_170_6, s_170_7, s_170_8, s_170_9, s_170_10, s_170_11, s_170_12, s_170_13, s_170_14, s_170_15, s_170_16, s_170_17, s_170_18, s_170_19, s_170_20, s_170_21, s_170_22, s_170_23, s_170_24, s_170_25, s_170_26, s_170_27, s_170_28, s_170_29, s_170_30, s_170_31, s_170_32, s_170_33, s_170_34, s_170_35, s_170_36, s_170_37, s_170_38, s_170_39, s_170_40, s_170_41, s_170_42, s_170_43, s_170_44, s_170_45, s_170_46, s_170_47, s_170_48, s_170_49, s_170_50, s_170_51, s_170_52, s_170_53, s_170_54, s_170_55, s_170_56, s_170_57, s_170_58, s_170_59, yO_160, m_164 M (show p < 40 by omega), Gk_v, xcat_nil, xcat_i, xcat_r, Nat.reduceAdd, Nat.reduceLeDiff, Nat.zero_le, true_and, ifbn, hb, Bool.false_eq_true, if_false]
  · by_cases hs : D.fl (yfeed D p) < yload D (yfeed D p)
    · have hne : ¬ yload D (yfeed D p) = 0 := by
        intro h
        rw [h, el] at hs
        exact absurd ((yI_lt (m := 0) (by omega) (by omega)).mp hs) (by omega)
      simp only [s_170_0, s_170_1, s_170_2, s_170_3, s_170_4, s_170_5, s_170_6, s_170_7, s_170_8, s_170_9, s_170_10, s_170_11, s_170_12, s_170_13, s_170_14, s_170_15, s_170_16, s_170_17, s_170_18, s_170_19, s_170_20, s_170_21, s_170_22, s_170_23, s_170_24, s_170_25, s_170_26, s_170_27, s_170_28, s_170_29, s_170_30, s_170_31, s_170_32, s_170_33, s_170_34, s_170_35, s_170_36, s_170_37, s_170_38, s_170_39, s_170_40, s_170_41, s_170_42, s_170_43, s_170_44, s_170_45, s_170_46, s_170_47, s_170_48, s_170_49, s_170_50, s_170_51, s_170_52, s_170_53, s_170_54, s_170_55, s_170_56, s_170_57, s_170_58, s_170_59, yO_160, yA_162, yn_162, m_164 M (show p < 40 by omega), m_166 M hp, mo_tk M (show p < 40 by omega), m_169 M hfe, m_168 M hfe, m_161, m_146, Gk_v, xcat_nil, xcat_i, xcat_r, Nat.reduceAdd, Nat.reduceLeDiff, Nat.zero_le, true_and, ifbn, hb, if_true, ykl_i, ykl_n, ykl_r, decide_eq_true hs, h2, h3, e1, M.fl (yfeed D p) (show yfeed D p < D.f by omega), hne, not_false_eq_true]
      rw [el] at hs ⊢
      rw [yshare_color hl hs]
    · have hle : yload D (yfeed D p) ≤ D.fl (yfeed D p) := Int32.not_lt.mp hs
      simp only [s_170_0, s_170_1, s_170_2, s_170_3, s_170_4, s_170_5, s_170_6, s_170_7, s_170_8, s_170_9, s_170_10, s_170_11, s_170_12, s_170_13, s_170_14, s_170_15, s_170_16, s_170_17, s_170_18, s_170_19, s_170_20, s_170_21, s_170_22, s_170_23, s_170_24, s_170_25, s_170_26, s_170_27, s_170_28, s_170_29, s_170_30, s_170_31, s_170_32, s_170_33, s_170_34, s_170_35, s_170_36, s_170_37, s_170_38, s_170_39, s_170_40, s_170_41, s_170_42, s_170_43, s_170_44, s_170_45, s_170_46, s_170_47, s_170_48, s_170_49, s_170_50, s_170_51, s_170_52, s_170_53, s_170_54, s_170_55, s_170_56, s_170_57, s_170_58, s_170_59, yO_160, yA_162, yn_162, m_164 M (show p < 40 by omega), m_166 M hp, mo_tk M (show p < 40 by omega), m_169 M hfe, Gk_v, xcat_nil, xcat_i, xcat_r, Nat.reduceAdd, Nat.reduceLeDiff, Nat.zero_le, true_and, ifbn, hb, if_true, ykl_i, ykl_n, ykl_r, decide_eq_false hs, Bool.false_eq_true, if_false, yshare, hle, true_or]
theorem l_171 (M : yM (t.A 162) D) : ∀ n p a, p + n = D.n → (G (d + 6) 171 4 [some (.ref 160), some (.int a), some (.int (yI p))] [] (yemb t) Q ↔ Q (.inl (some (.int (yfold (fun p a => a + ycur D.un (yshown D p)) n p a)))) (yemb t)) := by
  have hn40 := M.ok.n40
  intro n
  induction n with
  | zero =>
    intro p a hp
    have h1 : yI D.n ≤ yI p := (yI_le (by omega) (by omega)).mpr (by omega)
    rw [s_171_4]
    simp only [s_171_0, s_171_1, s_171_2, s_171_3, s_171_5, s_171_6, s_171_7, s_171_8, s_171_9, s_171_10, s_171_11, s_171_12, s_171_13, s_171_14, s_171_15, s_171_16, s_171_17, s_171_18, s_171_19, s_171_20, s_171_21, yO_160, yA_162, yn_162, yix0, ycl0, M.n, h1, if_true, yfold, true_and]
  | succ n ih =>
    intro p a hp
    have h1 : ¬ yI D.n ≤ yI p := fun h => absurd ((yI_le (by omega) (by omega)).mp h) (by omega)
    have h4 : yI p + 1 = yI (p + 1) := yI_add
    rw [s_171_4]
    simp only [s_171_0, s_171_1, s_171_2, s_171_3, s_171_5, s_171_6, s_171_7, s_171_8, s_171_9, s_171_10, s_171_11, s_171_12, s_171_13, s_171_14, s_171_15, s_171_16, s_171_17, s_171_18, s_171_19, s_171_20, s_171_21, yO_160, yA_162, yn_162, yix0, ycl0, M.n, m_170 M (show p < D.n by omega), m_167 M, Gk_v, xcat_nil, xcat_i, xcat_r, Nat.reduceAdd, Nat.reduceLeDiff, Nat.zero_le, true_and, h1, if_false, ykl_i, ykl_r, h4, ih (p + 1) _ (show p + 1 + n = D.n by omega), yfold]
theorem m_171 (M : yM (t.A 162) D) : Cl (d + 6) 171 [.ref 160] (yemb t) Q ↔ Q (.inl (some (.int (ycurrent D)))) (yemb t) := by
  show G (d + 6) 171 0 [some (.ref 160), none, none] [] (yemb t) Q ↔ _
  simp only [s_171_0, s_171_1, s_171_2, s_171_3, ykl_i, ykl_r]
  rw [ycurrent_flat M.ok]
  exact l_171 M D.n 0 0 (Nat.zero_add _)
end
/-! ===== strips: the row that goes along ===== -/
/-- the next pixel behind, from p on, that isn't in the set -/
def ynx (b : Nat → Bool) : Nat → Nat → Nat
  | 0, p => p
  | n + 1, p => if b p = true then ynx b n (p + 1) else p
theorem ynx_le {b : Nat → Bool} : ∀ n p, ynx b n p ≤ p + n := by
  intro n
  induction n with
  | zero => intro p; exact Nat.le_refl _
  | succ n ih =>
    intro p
    simp only [ynx]
    split
    · have := ih (p + 1)
      omega
    · omega
def ydead (D : yD) : Nat → Nat → Bool
  | 0, _ => false
  | n + 1, p => if D.kd p == 1 && !D.bp p then true else ydead D n (p + 1)
def ywhy (D : yD) (p : Nat) : Int32 :=
  if D.bp p = true then 1 else if D.kd p = 1 then 2 else if D.kd p = 2 then 3 else if D.og p < 0 then 4
  else if D.tk p = D.du p then (if D.fl (yfeed D p) < yload D (yfeed D p) then 8 else 0)
  else if ydead D p 0 = true then 5 else if D.og p = yI p then 7 else 6
section
variable {d o : Nat} {t : yT} {D : yD} {Q : xR → xS → Prop}
theorem l_56 (W : yW t o D) {l1 : Option Value} {s : Int64} {b : Nat → Bool} (hs : ∀ p, p < 40 → yin s (yI p) = b p) : ∀ n p, p + n = D.n → (G (d + 1) 56 4 [some (.ref o), l1, some (.long s), none, some (.int (yI p))] [] (yemb t) Q ↔ Q (.inl (some (.int (yI (ynx b n p))))) (yemb t)) := by
  have hn40 := W.ok.n40
  intro n
  induction n with
  | zero =>
    intro p hp
    have h1 : yI D.n ≤ yI p := (yI_le (by omega) (by omega)).mpr (by omega)
    rw [s_56_4]
    simp only [s_56_0, s_56_1, s_56_2, s_56_3, s_56_5, s_56_6, s_56_7, s_56_8, s_56_9, s_56_10, s_56_11, s_56_12, s_56_13, s_56_14, s_56_15, W.oo, W.n, h1, if_true, ynx]
  | succ n ih =>
    intro p hp
    have h1 : ¬ yI D.n ≤ yI p := fun h => absurd ((yI_le (by omega) (by omega)).mp h) (by omega)
    have h4 : yI p + 1 = yI (p + 1) := yI_add
    rw [s_56_4]
    simp only [s_56_0, s_56_1, s_56_2, s_56_3, s_56_5, s_56_6, s_56_7, s_56_8, s_56_9, s_56_10, s_56_11, s_56_12, s_56_13, s_56_14, s_56_15, W.oo, W.n, h1, if_false, m_64, hs p (show p < 40 by omega), Gk_v, xcat_nil, Nat.zero_le, Nat.reduceAdd, true_and, ifb, ykl_n, h4, ih (p + 1) (show p + 1 + n = D.n by omega)]
    simp only [ynx]
    cases hb : b p <;> simp
theorem l_63 (W : yW t o D) {q : Nat} (hq : q < 40) : ∀ n p, p + n = q → (G (d + 2) 63 2 [some (.ref o), some (.int (yI q)), some (.int (yI p))] [] (yemb t) Q ↔ Q (.inl (some (.int (yb (ydead D n p))))) (yemb t)) := by
  intro n
  induction n with
  | zero =>
    intro p hp
    have h1 : yI q ≤ yI p := (yI_le (by omega) (by omega)).mpr (by omega)
    rw [s_63_2]
    simp only [s_63_0, s_63_1, s_63_3, s_63_4, s_63_5, s_63_6, s_63_7, s_63_8, s_63_9, s_63_10, s_63_11, s_63_12, s_63_13, s_63_14, s_63_15, s_63_16, s_63_17, s_63_18, s_63_19, s_63_20, h1, if_true, ybo_0, true_and]
    rfl
  | succ n ih =>
    intro p hp
    have h1 : ¬ yI q ≤ yI p := fun h => absurd ((yI_le (by omega) (by omega)).mp h) (by omega)
    have h2 : yix (yI p) 40 := yix_I (by omega) (by omega)
    have h3 : (yI p).toNatClampNeg = p := yI_clamp (by omega)
    have h4 : yI p + 1 = yI (p + 1) := yI_add
    rw [s_63_2]
    simp only [s_63_0, s_63_1, s_63_3, s_63_4, s_63_5, s_63_6, s_63_7, s_63_8, s_63_9, s_63_10, s_63_11, s_63_12, s_63_13, s_63_14, s_63_15, s_63_16, s_63_17, s_63_18, s_63_19, s_63_20, W.oo, h1, if_false, yAs_3 W.oo, yns_3 W.oo, h2, h3, W.kd p (show p < 40 by omega), m_34 W.oo, W.bp p (show p < 40 by omega), Gk_v, xcat_nil, Nat.zero_le, Nat.reduceAdd, true_and, ifbn, ykl_i, h4, ih (p + 1) (show p + 1 + n = q by omega), ybo_1]
    simp only [ydead]
    by_cases hk : D.kd p = 1
    · cases hb : D.bp p <;> simp [hk, yb]
    · simp [hk]
theorem m_63 (W : yW t o D) {q : Nat} (hq : q < 40) : Cl (d + 2) 63 [.ref o, .int (yI q)] (yemb t) Q ↔ Q (.inl (some (.int (yb (ydead D q 0))))) (yemb t) := by
  show G (d + 2) 63 0 [some (.ref o), some (.int (yI q)), none] [] (yemb t) Q ↔ _
  simp only [s_63_0, s_63_1, ykl_i]
  exact l_63 W hq q 0 (Nat.zero_add _)
theorem m_62 (W : yW t o D) {p : Nat} (hp : p < 40) : Cl (d + 4) 62 [.ref o, .int (yI p)] (yemb t) Q ↔ Q (.inl (some (.int (ywhy D p)))) (yemb t) := by
  have hf6 := W.ok.f6
  have hfe := yfeed_lt W.ok p
  have h2 : yix (yI p) 40 := yix_I (by omega) (by omega)
  have h3 : (yI p).toNatClampNeg = p := yI_clamp (by omega)
  have h5 : yix (yI (yfeed D p)) 6 := yix_I (by omega) (by omega)
  have h6 : (yI (yfeed D p)).toNatClampNeg = yfeed D p := yI_clamp (by omega)
  have hlt : ∀ {x y : Int32} {A B : Prop}, (if x ≤ y then A else B) ↔ (if y < x then B else A) := by
    intro x y A B
    by_cases h : x ≤ y
    · rw [if_pos h, if_neg (Int32.not_lt.mpr h)]
    · rw [if_neg h, if_pos (Int32.not_le.mp h)]
  have hge : ∀ {x : Int32} {A B : Prop}, (if 0 ≤ x then A else B) ↔ (if x < 0 then B else A) := by
    intro x A B
    by_cases h : 0 ≤ x
    · rw [if_pos h, if_neg (Int32.not_lt.mpr h)]
    · rw [if_neg h, if_pos (Int32.not_le.mp h)]
  show G (d + 4) 62 0 [some (.ref o), some (.int (yI p)), none] [] (yemb t) Q ↔ _
  simp only [s_62_0, s_62_1, s_62_2, s_62_3, s_62_4, s_62_5, s_62_6, s_62_7, s_62_8, s_62_9, s_62_10, s_62_11, s_62_12, s_62_13, s_62_14, s_62_15, s_62_16, s_62_17, s_62_18, s_62_19, s_62_20, s_62_21, s_62_22, s_62_23, s_62_24, s_62_25, s_62_26, s_62_27, s_62_28, s_62_29, s_62_30, s_62_31, s_62_32, s_62_33, s_62_34, s_62_35, s_62_36, s_62_37, s_62_38, s_62_39, s_62_40, s_62_41, s_62_42, s_62_43, s_62_44, s_62_45, s_62_46, s_62_47, s_62_48, s_62_49, s_62_50, s_62_51, s_62_52, s_62_53, s_62_54, s_62_55, s_62_56, s_62_57, s_62_58, s_62_59, s_62_60, s_62_61, s_62_62, s_62_63, s_62_64, s_62_65, s_62_66, s_62_67, s_62_68, s_62_69, W.oo, m_34 W.oo, W.bp p hp, m_63 W hp, m_42' W hp, m_44 W hfe, Gk_v, xcat_nil, xcat_i, xcat_r, Nat.reduceAdd, Nat.reduceLeDiff, Nat.zero_le, true_and, ifb, ykl_i, yAs_3 W.oo, yns_3 W.oo, yAs_6 W.oo, yns_6 W.oo, yAs_2 W.oo, yns_2 W.oo, yAs_7 W.oo, yns_7 W.oo, yAs_9 W.oo, yns_9 W.oo, h2, h3, h5, h6, W.kd p hp, W.tk p hp, W.du p hp, W.og p hp, W.fl (yfeed D p) (by omega), hlt, hge]
  unfold ywhy
  repeat' split
  all_goals simp_all
end
/-! ===== the model: refusals, reasons ===== -/
theorem m_125 {d : Nat} {v lo hi : Int32} {σ : xS} {Q : xR → xS → Prop} : Cl d 125 [.int v, .int lo, .int hi] σ Q ↔ Q (.inl (some (.int (yb (decide (lo ≤ v ∧ v ≤ hi)))))) σ := by
  show G d 125 0 [some (.int v), some (.int lo), some (.int hi)] [] σ Q ↔ _
  simp only [s_125_0, s_125_1, s_125_2, s_125_3, s_125_4, s_125_5, s_125_6, s_125_7, s_125_8, s_125_9, ybo_0, ybo_1, true_and]
  by_cases h1 : v < lo
  · have h2 : ¬ lo ≤ v := Int32.not_le.mpr h1
    simp [h1, h2, yb]
  · have h2 : lo ≤ v := Int32.not_lt.mp h1
    by_cases h3 : hi < v
    · have h4 : ¬ v ≤ hi := Int32.not_le.mpr h3
      simp [h1, h2, h3, h4, yb]
    · have h4 : v ≤ hi := Int32.not_lt.mp h3
      simp [h1, h2, h3, h4, yb]
section
variable {d : Nat} {t : yT} {D : yD} {Q : xR → xS → Prop}
theorem m_124 {b : Bool} {e : Int32} (he : ¬ e = 0) (h0 : t.A 160 0 = 0) : Cl d 124 [.ref 160, .int (yb b), .int e] (yemb t) Q ↔ Q (.inl (some (.int (yb b)))) (yemb (if b then t.s1 160 0 e else t)) := by
  show G d 124 0 [some (.ref 160), some (.int (yb b)), some (.int e)] [] (yemb t) Q ↔ _
  cases b
  · simp only [s_124_0, s_124_1, s_124_2, s_124_3, s_124_4, s_124_5, s_124_6, s_124_7, s_124_8, s_124_9, s_124_10, s_124_11, s_124_12, s_124_13, s_124_14, yO_160, yb, Bool.false_eq_true, if_false, if_true, h0, ne_eq, not_true_eq_false, ybo_0, true_and]
  · have h1 : ¬ (1 : Int32) = 0 := by decide
    simp only [s_124_0, s_124_1, s_124_2, s_124_3, s_124_4, s_124_5, s_124_6, s_124_7, s_124_8, s_124_9, s_124_10, s_124_11, s_124_12, s_124_13, s_124_14, yO_160, yb, if_true, if_false, h0, h1, he, ne_eq, not_true_eq_false, not_false_eq_true, ybo_1, true_and, ys1_same]
theorem m_124f {e : Int32} (he : ¬ e = 0) (h0 : t.A 160 0 = 0) : Cl d 124 [.ref 160, .int 0, .int e] (yemb t) Q ↔ Q (.inl (some (.int 0))) (yemb t) := m_124 (b := false) he h0
theorem m_124t {e : Int32} (he : ¬ e = 0) (h0 : t.A 160 0 = 0) : Cl d 124 [.ref 160, .int 1, .int e] (yemb t) Q ↔ Q (.inl (some (.int 1))) (yemb (t.s1 160 0 e)) := m_124 (b := true) he h0
theorem m_185 (M : yM (t.A 162) D) {p : Int32} (h0 : t.A 160 0 = 0) : Cl (d + 1) 185 [.ref 160, .int p] (yemb t) Q ↔ Q (.inl (some (.int (yb (!decide (0 ≤ p ∧ p < yI D.n)))))) (yemb (if !decide (0 ≤ p ∧ p < yI D.n) then t.s1 160 0 1 else t)) := by
  have hn1 := M.ok.n1
  have hn40 := M.ok.n40
  have e : (p ≤ yI (D.n - 1)) = (p < yI D.n) := by
    apply propext
    rw [Int32.le_iff_toInt_le, Int32.lt_iff_toInt_lt, yI_toInt (by omega), yI_toInt (by omega)]
    omega
  have h1 : ¬ (1 : Int32) = 0 := by decide
  show G (d + 1) 185 0 [some (.ref 160), some (.int p)] [] (yemb t) Q ↔ _
  simp only [s_185_0, s_185_1, s_185_2, s_185_3, s_185_4, s_185_5, s_185_6, s_185_7, s_185_8, s_185_9, s_185_10, s_185_11, s_185_12, s_185_13, s_185_14, s_185_15, s_185_16, yO_160, yA_162, yn_162, yix0, ycl0, M.n, yI_sub1 hn1, m_125, m_124f h1 h0, m_124t h1 h0, Gk_v, xcat_nil, xcat_i, xcat_r, Nat.reduceAdd, Nat.reduceLeDiff, Nat.zero_le, true_and, ifbn, ybo_0, ybo_1]
  by_cases hp : 0 ≤ p ∧ p < yI D.n
  · simp [e, hp, yb]
  · simp [e, hp, yb]
theorem l_195 (M : yM (t.A 162) D) {q : Nat} (hq : q < 40) : ∀ n p, p + n = q → (G (d + 2) 195 2 [some (.ref 160), some (.int (yI q)), some (.int (yI p))] [] (yemb t) Q ↔ Q (.inl (some (.int (yb (ydead D n p))))) (yemb t)) := by
  intro n
  induction n with
  | zero =>
    intro p hp
    have h1 : yI q ≤ yI p := (yI_le (by omega) (by omega)).mpr (by omega)
    rw [s_195_2]
    simp only [s_195_0, s_195_1, s_195_3, s_195_4, s_195_5, s_195_6, s_195_7, s_195_8, s_195_9, s_195_10, s_195_11, s_195_12, s_195_13, s_195_14, s_195_15, s_195_16, s_195_17, s_195_18, s_195_19, s_195_20, s_195_21, h1, if_true, ybo_0, true_and]
    rfl
  | succ n ih =>
    intro p hp
    have h1 : ¬ yI q ≤ yI p := fun h => absurd ((yI_le (by omega) (by omega)).mp h) (by omega)
    have h4 : yI p + 1 = yI (p + 1) := yI_add
    rw [s_195_2]
    simp only [s_195_0, s_195_1, s_195_3, s_195_4, s_195_5, s_195_6, s_195_7, s_195_8, s_195_9, s_195_10, s_195_11, s_195_12, s_195_13, s_195_14, s_195_15, s_195_16, s_195_17, s_195_18, s_195_19, s_195_20, s_195_21, yO_160, h1, if_false, mo_kd M (show p < 40 by omega), mo_bp M (show p < 40 by omega), Gk_v, xcat_nil, xcat_i, xcat_r, Nat.zero_le, Nat.reduceAdd, Nat.reduceLeDiff, true_and, ifbn, ykl_i, h4, ih (p + 1) (show p + 1 + n = q by omega), ybo_1]
    simp only [ydead]
    by_cases hk : D.kd p = 1
    · cases hb : D.bp p <;> simp [hk, yb]
    · simp [hk]
theorem m_195 (M : yM (t.A 162) D) {q : Nat} (hq : q < 40) : Cl (d + 2) 195 [.ref 160, .int (yI q)] (yemb t) Q ↔ Q (.inl (some (.int (yb (ydead D q 0))))) (yemb t) := by
  show G (d + 2) 195 0 [some (.ref 160), some (.int (yI q)), none] [] (yemb t) Q ↔ _
  simp only [s_195_0, s_195_1, ykl_i]
  exact l_195 M hq q 0 (Nat.zero_add _)
end
/-! ===== the model: why ===== -/
theorem yM_s1 {t : yT} {D : yD} {a j : Nat} {v : Int32} (h : (162 : Nat) ≠ a) (M : yM (t.A 162) D) : yM ((t.s1 a j v).A 162) D := by
  rw [ys1_ne h]
  exact M
section
variable {d : Nat} {t : yT} {D : yD} {Q : xR → xS → Prop}
theorem m_196 (M : yM (t.A 162) D) {p : Nat} (hp : p < D.n) : Cl (d + 5) 196 [.ref 160, .int (yI p)] (yemb t) Q ↔ Q (.inl (some (.int (ywhy D p)))) (yemb (t.s1 160 0 0)) := by
  have hn40 := M.ok.n40
  have M1 : yM ((t.s1 160 0 0).A 162) D := yM_s1 (by decide) M
  have hfe := yfeed_lt M.ok p
  have hin : (0 : Int32) ≤ yI p ∧ yI p < yI D.n := ⟨(yI_le (n := 0) (by omega) (by omega)).mpr (by omega), (yI_lt (by omega) (by omega)).mpr hp⟩
  have hq : p < 40 := by omega
  show G (d + 5) 196 0 [some (.ref 160), some (.int (yI p))] [] (yemb t) Q ↔ _
  simp only [s_196_0, s_196_1, s_196_2, s_196_3, s_196_4, s_196_5, s_196_6, s_196_7, s_196_8, s_196_9, s_196_10, s_196_11, s_196_12, s_196_13, s_196_14, s_196_15, s_196_16, s_196_17, s_196_18, s_196_19, s_196_20, s_196_21, s_196_22, s_196_23, s_196_24, s_196_25, s_196_26, s_196_27, s_196_28, s_196_29, s_196_30, s_196_31, s_196_32, s_196_33, s_196_34, s_196_35, s_196_36, s_196_37, s_196_38, s_196_39, s_196_40, s_196_41, s_196_42, s_196_43, s_196_44, s_196_45, s_196_46, s_196_47, s_196_48, s_196_49, s_196_50, s_196_51, s_196_52, s_196_53, s_196_54, s_196_55, s_196_56, s_196_57, s_196_58, s_196_59, s_196_60, s_196_61, s_196_62, s_196_63, s_196_64, s_196_65, s_196_66, s_196_67, s_196_68, s_196_69, s_196_70, s_196_71, s_196_72, s_196_73, s_196_74, s_196_75, s_196_76, s_196_77, s_196_78, yO_160, m_185 M1 (ys1_same), hin, and_self, decide_true, Bool.not_true, Bool.false_eq_true, if_false, mo_bp M1 hq, mo_kd M1 hq, mo_og M1 hq, mo_tk M1 hq, mo_du M1 hq, m_195 M1 hq, m_166 M1 hp, m_169 M1 hfe, Gk_v, xcat_nil, xcat_i, xcat_r, Nat.reduceAdd, Nat.reduceLeDiff, Nat.zero_le, true_and, ifb]
  have hog : D.og p = -1 ↔ D.og p < 0 := by
    rcases M.ok.ogm p hp with h | ⟨q, hq, h⟩
    · rw [h]
      decide
    · rw [h]
      constructor
      · intro h1
        have := congrArg Int32.toInt h1
        rw [yI_toInt (by omega)] at this
        have h2 : (-1 : Int32).toInt = -1 := rfl
        omega
      · intro h1
        exact absurd h1 (yI_nneg (by omega))
  unfold ywhy
  cases hb : D.bp p
  · by_cases h1 : D.kd p = 1
    · simp [h1, yb]
    · by_cases h2 : D.kd p = 2
      · simp [h2, yb]
      · by_cases h3 : D.og p < 0
        · simp [h1, h2, h3, hog.mpr h3, yb]
        · have h4 : ¬ D.og p = -1 := fun h => h3 (hog.mp h)
          by_cases h5 : D.tk p = D.du p
          · by_cases h6 : D.fl (yfeed D p) < yload D (yfeed D p) <;> simp [h1, h2, h3, h4, h5, h6, yb]
          · by_cases h7 : D.og p = yI p
            · rw [h7] at h3 h4
              cases h6 : ydead D p 0 <;> simp [h1, h2, h3, h4, h5, h7, yb]
            · cases h6 : ydead D p 0 <;> simp [h1, h2, h3, h4, h5, h7, yb]
  · simp [yb]
end
/-! ===== a whole call of the law on the class's side: why ===== -/
theorem xhd_no {k i e : Nat} (h : xhn k = []) : xhd k i e = none := by
  unfold xhd
  rw [h]
  split <;> rfl
theorem Gk_e {d k i : Nat} {ls : xL} {rest : List Value} {Q : xR → xS → Prop} {e : Nat} {σ : xS} : Gk d k i ls rest Q (.inr e) σ = (match xhd k i e with
    | none => False
    | some h => G d k h.1 ((xkill ls h.2).set h.2 none) [] σ Q) := rfl
section
variable {d : Nat} {t : yT} {D : yD} {Q : xR → xS → Prop}
theorem m_102 (W : yW t 7 D) (hz : t.z.1.1 < 900000) {p : Int32} : Cl (d + 5) 102 [.ref 0, .int p] (yemb t) Q ↔ (if 0 ≤ p ∧ p < yI D.n then Q (.inl (some (.int (ywhy D p.toNatClampNeg)))) (yemb t) else Q (.inr 1) (yemb t.bp)) := by
  have hn40 := W.ok.n40
  show G (d + 5) 102 0 [some (.ref 0), some (.int p)] [] (yemb t) Q ↔ _
  have hz' : (yemb t).2.1.1 < 900000 := hz
  by_cases h : 0 ≤ p ∧ p < yI D.n
  · obtain ⟨q, hq, rfl⟩ := yI_of (Int32.not_lt.mpr h.1)
    have hqn := (yI_lt hq (by omega)).mp h.2
    rw [if_pos h, yI_clamp hq]
    simp only [s_102_0, s_102_1, s_102_2, s_102_3, s_102_4, s_102_5, s_102_6, s_102_6i, s_102_9, s_102_10, s_102_11, s_102_12, s_102_13, yO_0, yO_7, m_32 yO_7, W.n, h, and_self, decide_true, m_62 W (show q < 40 by omega), Gk_v, xcat_nil, xcat_i, xcat_r, Nat.reduceAdd, Nat.reduceLeDiff, Nat.zero_le, true_and, ifbn, if_true]
  · rw [if_neg h]
    simp only [s_102_0, s_102_1, s_102_2, s_102_3, s_102_4, s_102_5, s_102_6, s_102_6i, s_102_9, s_102_10, s_102_11, s_102_12, s_102_13, yO_0, yO_7, m_32 yO_7, W.n, h, decide_false, Gk_v, xcat_nil, xcat_i, xcat_r, Nat.reduceAdd, Nat.reduceLeDiff, Nat.zero_le, true_and, ifbn, Bool.false_eq_true, if_false, hz', xbump_emb]
theorem m_231 (W : yW t 7 D) (hz : t.z.1.1 < 900000) {p : Int32} : Cl (d + 6) 231 [.ref 0, .int p, .ref 183] (yemb t) Q ↔ (if 0 ≤ p ∧ p < yI D.n then Q (.inl (some (.int 0))) (yemb (t.sL 183 0 (ywhy D p.toNatClampNeg).toInt64)) else Q (.inl (some (.int 1))) (yemb t.bp)) := by
  have h1 : yix 0 1 := yix_I (n := 0) (by omega) (by omega)
  have hh : xhd 231 4 1 = some (9, 3) := by decide
  show G (d + 6) 231 0 [some (.ref 0), some (.int p), some (.ref 183), none] [] (yemb t) Q ↔ _
  by_cases h : 0 ≤ p ∧ p < yI D.n
  · simp only [s_231_0, s_231_1, s_231_2, s_231_3, s_231_4, s_231_5, s_231_6, s_231_7, s_231_8, s_231_9, s_231_10, s_231_11, s_231_12, yO_0, m_102 W hz, h, and_self, if_true, Gk_v, xcat_nil, xcat_i, xcat_r, Nat.reduceAdd, Nat.reduceLeDiff, Nat.zero_le, true_and, yA_183, yn_183, h1, ycl0]
  · simp only [s_231_0, s_231_1, s_231_2, s_231_3, s_231_4, s_231_5, s_231_6, s_231_7, s_231_8, s_231_9, s_231_10, s_231_11, s_231_12, yO_0, m_102 W hz, h, if_false, Gk_e, hh, xcat_nil, xcat_i, xcat_r, Nat.reduceAdd, Nat.reduceLeDiff, Nat.zero_le, true_and]
    show G (d + 6) 231 9 [some (.ref 0), some (.int p), some (.ref 183), none] [] (yemb t.bp) Q ↔ _
    simp only [s_231_0, s_231_1, s_231_2, s_231_3, s_231_4, s_231_5, s_231_6, s_231_7, s_231_8, s_231_9, s_231_10, s_231_11, s_231_12]
end

/-! ===== strips: loads, colors, what is wrong ===== -/
def yout (D : yD) (p : Nat) : Bool := D.kd p == 1 || D.kd p == 2
def ywrong (D : yD) (p : Nat) : Bool := !D.bp p && (yout D p || D.tk p != D.du p)
def ywrongs (D : yD) : Int32 := yfold (fun p a => if ywrong D p then a + 1 else a) D.n 0 0
def yrgb (r g b : Int32) : Int32 := (r <<< ((16 : Int32) &&& 31)) ||| (g <<< ((8 : Int32) &&& 31)) ||| b
def yshare (c lim ld : Int32) : Int32 := if ld ≤ lim ∨ ld ≤ 0 then c else yrgb (((c >>> ((16 : Int32) &&& 31)) &&& 255) * lim / ld) (((c >>> ((8 : Int32) &&& 31)) &&& 255) * lim / ld) ((c &&& 255) * lim / ld)
def ysumlim (D : yD) : Int32 := yfold (fun g a => a + D.fl g) D.f 0 0
theorem ifb {b : Bool} {α : Sort _} {x y : α} : (if yb b = 0 then x else y) = if b = true then y else x := by
  cases b <;> rfl
theorem ifbn {b : Bool} {α : Sort _} {x y : α} : (if yb b ≠ 0 then x else y) = if b = true then x else y := by
  cases b <;> rfl
section
variable {d o : Nat} {t : yT} {D : yD} {Q : xR → xS → Prop}
theorem l_44 (W : yW t o D) {g : Nat} (hg : g < D.f) : ∀ n p a, p + n = ylast D g + 1 → (G (d + 3) 44 7 [some (.ref o), some (.int (yI g)), some (.int a), some (.int (yI p))] [] (yemb t) Q ↔ Q (.inl (some (.int (yfold (fun p a => if ylit D p then a + ycur D.un (D.tk p) else a) n p a)))) (yemb t)) := by
  have hn40 := W.ok.n40
  have hl := ylast_lt W.ok hg
  intro n
  induction n with
  | zero =>
    intro p a hp
    have h1 : yI (ylast D g) < yI p := (yI_lt (by omega) (by omega)).mpr (by omega)
    rw [s_44_7]
    simp only [s_44_0, s_44_1, s_44_2, s_44_3, s_44_4, s_44_5, s_44_6, s_44_8, s_44_9, s_44_10, s_44_11, s_44_12, s_44_13, s_44_14, s_44_15, s_44_16, s_44_17, s_44_18, s_44_19, s_44_20, s_44_21, s_44_22, s_44_23, s_44_24, s_44_25, s_44_26, s_44_27, s_44_28, W.oo, m_43 W hg, Gk_v, xcat_nil, xcat_i, Nat.reduceAdd, Nat.reduceLeDiff, true_and, h1, if_true, yfold]
  | succ n ih =>
    intro p a hp
    have h1 : ¬ yI (ylast D g) < yI p := fun h => absurd ((yI_lt (by omega) (by omega)).mp h) (by omega)
    have h2 : yix (yI p) 40 := yix_I (by omega) (by omega)
    have h3 : (yI p).toNatClampNeg = p := yI_clamp (by omega)
    have h4 : yI p + 1 = yI (p + 1) := yI_add
    rw [s_44_7]
    simp only [s_44_0, s_44_1, s_44_2, s_44_3, s_44_4, s_44_5, s_44_6, s_44_8, s_44_9, s_44_10, s_44_11, s_44_12, s_44_13, s_44_14, s_44_15, s_44_16, s_44_17, s_44_18, s_44_19, s_44_20, s_44_21, s_44_22, s_44_23, s_44_24, s_44_25, s_44_26, s_44_27, s_44_28, W.oo, m_43 W hg, m_46 W (show p < 40 by omega), m_47 W, Gk_v, xcat_nil, xcat_i, xcat_r, Nat.reduceAdd, Nat.reduceLeDiff, true_and, h1, if_false, ifb, ykl_i, h4, yAs_6 W.oo, yns_6 W.oo, h2, h3, W.tk p (by omega), ih (p + 1) _ (by omega)]
    simp only [yfold]
    cases ylit D p <;> simp
theorem m_44 (W : yW t o D) {g : Nat} (hg : g < D.f) : Cl (d + 3) 44 [.ref o, .int (yI g)] (yemb t) Q ↔ Q (.inl (some (.int (yload D g)))) (yemb t) := by
  have hf6 := W.ok.f6
  have hfl : D.fp g ≤ ylast D g := by
    unfold ylast
    split
    · rename_i h
      have := W.ok.fpm g h
      omega
    · have := W.ok.fpn g hg
      omega
  have h2 : yix (yI g) 6 := yix_I (by omega) (by omega)
  have h3 : (yI g).toNatClampNeg = g := yI_clamp (by omega)
  show G (d + 3) 44 0 [some (.ref o), some (.int (yI g)), none, none] [] (yemb t) Q ↔ _
  simp only [s_44_0, s_44_1, s_44_2, s_44_3, s_44_4, s_44_5, s_44_6, ykl_i, W.oo, yAs_8 W.oo, yns_8 W.oo, h2, h3, true_and, W.fp g (by omega)]
  exact l_44 W hg _ _ _ (by omega)
theorem m_58 (W : yW t o D) {p : Nat} (hp : p < 40) : Cl d 58 [.ref o, .int (yI p)] (yemb t) Q ↔ Q (.inl (some (.int (yb (yout D p))))) (yemb t) := by
  have h2 : yix (yI p) 40 := yix_I (by omega) (by omega)
  have h3 : (yI p).toNatClampNeg = p := yI_clamp (by omega)
  show G d 58 0 [some (.ref o), some (.int (yI p))] [] (yemb t) Q ↔ _
  simp only [s_58_0, s_58_1, s_58_2, s_58_3, s_58_4, s_58_5, s_58_6, s_58_7, s_58_8, s_58_9, s_58_10, s_58_11, s_58_12, s_58_13, s_58_14, s_58_15, W.oo, yAs_3 W.oo, yns_3 W.oo, h2, h3, true_and, W.kd p hp, ybo_0, ybo_1]
  unfold yout
  by_cases h0 : D.kd p = 1
  · simp [h0, yb]
  · by_cases h1 : D.kd p = 2
    · simp [h1, yb]
    · simp [h0, h1, yb]
theorem l_59 (W : yW t o D) : ∀ n p a, p + n = D.n → (G (d + 3) 59 4 [some (.ref o), some (.int a), some (.int (yI p))] [] (yemb t) Q ↔ Q (.inl (some (.int (yfold (fun p a => if ywrong D p then a + 1 else a) n p a)))) (yemb t)) := by
  have hn40 := W.ok.n40
  intro n
  induction n with
  | zero =>
    intro p a hp
    have h1 : yI D.n ≤ yI p := (yI_le (by omega) (by omega)).mpr (by omega)
    rw [s_59_4]
    simp only [s_59_0, s_59_1, s_59_2, s_59_3, s_59_5, s_59_6, s_59_7, s_59_8, s_59_9, s_59_10, s_59_11, s_59_12, s_59_13, s_59_14, s_59_15, s_59_16, s_59_17, s_59_18, s_59_19, s_59_20, s_59_21, s_59_22, s_59_23, s_59_24, s_59_25, s_59_26, s_59_27, s_59_28, s_59_29, W.oo, W.n, h1, if_true, yfold]
  | succ n ih =>
    intro p a hp
    have h1 : ¬ yI D.n ≤ yI p := fun h => absurd ((yI_le (by omega) (by omega)).mp h) (by omega)
    have h2 : yix (yI p) 40 := yix_I (by omega) (by omega)
    have h3 : (yI p).toNatClampNeg = p := yI_clamp (by omega)
    have h4 : yI p + 1 = yI (p + 1) := yI_add
    rw [s_59_4]
    simp only [s_59_0, s_59_1, s_59_2, s_59_3, s_59_5, s_59_6, s_59_7, s_59_8, s_59_9, s_59_10, s_59_11, s_59_12, s_59_13, s_59_14, s_59_15, s_59_16, s_59_17, s_59_18, s_59_19, s_59_20, s_59_21, s_59_22, s_59_23, s_59_24, s_59_25, s_59_26, s_59_27, s_59_28, s_59_29, W.oo, W.n, m_34 W.oo, W.bp p (show p < 40 by omega), m_58 W (show p < 40 by omega), Gk_v, xcat_nil, Nat.zero_le, Nat.reduceAdd, true_and, h1, if_false, ifbn, ykl_i, ykl_r, h4, yAs_6 W.oo, yns_6 W.oo, yAs_2 W.oo, yns_2 W.oo, h2, h3, W.tk p (show p < 40 by omega), W.du p (show p < 40 by omega), ih (p + 1) _ (show p + 1 + n = D.n by omega)]
    simp only [yfold]
    have hw : ywrong D p = (!D.bp p && (yout D p || D.tk p != D.du p)) := rfl
    rw [hw]
    cases hb : D.bp p <;> cases hq : yout D p <;> by_cases h : D.tk p = D.du p <;> simp [h]
theorem m_59 (W : yW t o D) : Cl (d + 3) 59 [.ref o] (yemb t) Q ↔ Q (.inl (some (.int (ywrongs D)))) (yemb t) := by
  show G (d + 3) 59 0 [some (.ref o), none, none] [] (yemb t) Q ↔ _
  simp only [s_59_0, s_59_1, s_59_2, s_59_3, ykl_i, ykl_r]
  exact l_59 W D.n 0 0 (Nat.zero_add _)
theorem l_45 (W : yW t o D) : ∀ n g a, g + n = D.f → (G d 45 4 [some (.ref o), some (.int a), some (.int (yI g))] [] (yemb t) Q ↔ Q (.inl (some (.int (yfold (fun g a => a + D.fl g) n g a)))) (yemb t)) := by
  have hf6 := W.ok.f6
  intro n
  induction n with
  | zero =>
    intro p a hp
    have h1 : yI D.f ≤ yI p := (yI_le (by omega) (by omega)).mpr (by omega)
    rw [s_45_4]
    simp only [s_45_0, s_45_1, s_45_2, s_45_3, s_45_5, s_45_6, s_45_7, s_45_8, s_45_9, s_45_10, s_45_11, s_45_12, s_45_13, s_45_14, s_45_15, s_45_16, s_45_17, s_45_18, W.oo, W.f, h1, if_true, yfold]
  | succ n ih =>
    intro p a hp
    have h1 : ¬ yI D.f ≤ yI p := fun h => absurd ((yI_le (by omega) (by omega)).mp h) (by omega)
    have h2 : yix (yI p) 6 := yix_I (by omega) (by omega)
    have h3 : (yI p).toNatClampNeg = p := yI_clamp (by omega)
    have h4 : yI p + 1 = yI (p + 1) := yI_add
    rw [s_45_4]
    simp only [s_45_0, s_45_1, s_45_2, s_45_3, s_45_5, s_45_6, s_45_7, s_45_8, s_45_9, s_45_10, s_45_11, s_45_12, s_45_13, s_45_14, s_45_15, s_45_16, s_45_17, s_45_18, W.oo, W.f, true_and, h1, if_false, ykl_i, ykl_r, h4, yAs_9 W.oo, yns_9 W.oo, h2, h3, W.fl p (show p < 6 by omega), ih (p + 1) _ (show p + 1 + n = D.f by omega), yfold]
theorem m_45 (W : yW t o D) : Cl d 45 [.ref o] (yemb t) Q ↔ Q (.inl (some (.int (ysumlim D)))) (yemb t) := by
  show G d 45 0 [some (.ref o), none, none] [] (yemb t) Q ↔ _
  simp only [s_45_0, s_45_1, s_45_2, s_45_3, ykl_i, ykl_r]
  exact l_45 W D.f 0 0 (Nat.zero_add _)
end

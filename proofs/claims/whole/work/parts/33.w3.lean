/-! ===== what a strip is ===== -/
def yfold {α : Type} (h : Nat → α → α) : Nat → Nat → α → α
  | 0, _, a => a
  | n + 1, i, a => yfold h n (i + 1) (h i a)
theorem yfold_congr {α : Type} {h h' : Nat → α → α} : ∀ (n i : Nat) (a : α), (∀ j b, i ≤ j → j < i + n → h j b = h' j b) → yfold h n i a = yfold h' n i a := by
  intro n
  induction n with
  | zero => intro i a _; rfl
  | succ n ih =>
    intro i a hh
    show yfold h n (i + 1) (h i a) = yfold h' n (i + 1) (h' i a)
    rw [hh i a (Nat.le_refl _) (by omega)]
    exact ih (i + 1) _ (fun j b h1 h2 => hh j b (by omega) (by omega))
structure yD where
  n : Nat
  f : Nat
  un : Int32
  lv : Int32
  sh : Int32
  ac : Int32
  bp : Nat → Bool
  kd : Nat → Int32
  pd : Nat → Int32
  fr : Nat → Int32
  tk : Nat → Int32
  du : Nat → Int32
  og : Nat → Int32
  fm : Nat → Int32
  fp : Nat → Nat
  fl : Nat → Int32
/-- what holds of every strip -/
structure yDok (D : yD) : Prop where
  n1 : 1 ≤ D.n
  n40 : D.n ≤ 40
  f1 : 1 ≤ D.f
  f6 : D.f ≤ 6
  fp0 : D.fp 0 = 0
  fpm : ∀ g, g + 1 < D.f → D.fp g < D.fp (g + 1)
  fpn : ∀ g, g < D.f → D.fp g < D.n
  ogm : ∀ p, p < D.n → D.og p = -1 ∨ ∃ q, q < 40 ∧ D.og p = yI q
  fll : ∀ g, g < D.f → ∃ l, l < 10000 ∧ D.fl g = yI l
/-- the strip object at o holds the strip D -/
structure yW (t : yT) (o : Nat) (D : yD) : Prop where
  ok : yDok D
  oo : yisO 4 o
  n : t.A o 9 = yI D.n
  un : t.A o 10 = D.un
  lv : t.A o 11 = D.lv
  f : t.A o 12 = yI D.f
  sh : t.A o 13 = D.sh
  ac : t.A o 14 = D.ac
  bp : ∀ p, p < 40 → yin (t.L o 15) (yI p) = D.bp p
  fm : ∀ p, p < 40 → t.A (o + 1) p = D.fm p
  du : ∀ p, p < 40 → t.A (o + 2) p = D.du p
  kd : ∀ p, p < 40 → t.A (o + 3) p = D.kd p
  pd : ∀ p, p < 40 → t.A (o + 4) p = D.pd p
  fr : ∀ p, p < 40 → t.A (o + 5) p = D.fr p
  tk : ∀ p, p < 40 → t.A (o + 6) p = D.tk p
  og : ∀ p, p < 40 → t.A (o + 7) p = D.og p
  fp : ∀ g, g < 6 → t.A (o + 8) g = yI (D.fp g)
  fl : ∀ g, g < 6 → t.A (o + 9) g = D.fl g
def ylast (D : yD) (g : Nat) : Nat := if g + 1 < D.f then D.fp (g + 1) - 1 else D.n - 1
theorem ylast_lt {D : yD} (h : yDok D) {g : Nat} (hg : g < D.f) : ylast D g < D.n := by
  unfold ylast
  have := h.n1
  split
  · rename_i h1
    have := h.fpn (g + 1) h1
    omega
  · omega
theorem yI_sub1 {n : Nat} (h : 1 ≤ n) : yI n - 1 = yI (n - 1) := by
  have : yI n = yI (n - 1) + 1 := by
    show yI n = yI (n - 1) + yI 1
    rw [yI_add]
    congr 1
    omega
  rw [this, Int32.add_sub_cancel]
def ylit (D : yD) (p : Nat) : Bool := (D.kd p == 0 || D.kd p == 3) && !D.bp p
def ycur (un c : Int32) : Int32 := (((c >>> ((16 : Int32) &&& 31)) &&& 255) + ((c >>> ((8 : Int32) &&& 31)) &&& 255) + (c &&& 255)) * un / 765
/-- what a feed bears -/
def yload (D : yD) (g : Nat) : Int32 := yfold (fun p a => if ylit D p then a + ycur D.un (D.tk p) else a) (ylast D g + 1 - D.fp g) (D.fp g) 0
section
variable {d o : Nat} {t : yT} {D : yD} {Q : xR → xS → Prop}
theorem m_43 (W : yW t o D) {g : Nat} (hg : g < D.f) : Cl d 43 [.ref o, .int (yI g)] (yemb t) Q ↔ Q (.inl (some (.int (yI (ylast D g))))) (yemb t) := by
  have hf6 := W.ok.f6
  have hn1 := W.ok.n1
  have hn40 := W.ok.n40
  have e1 : yI g + 1 = yI (g + 1) := yI_add
  show G d 43 0 [some (.ref o), some (.int (yI g))] [] (yemb t) Q ↔ _
  by_cases h : g + 1 < D.f
  · have h1 : ¬ yI D.f ≤ yI (g + 1) := fun h' => absurd ((yI_le (by omega) (by omega)).mp h') (by omega)
    have h2 : yix (yI (g + 1)) 6 := yix_I (by omega) (by omega)
    have h3 : (yI (g + 1)).toNatClampNeg = g + 1 := yI_clamp (by omega)
    have h5 := W.ok.fpm g h
    simp only [s_43_0, s_43_1, s_43_2, s_43_3, s_43_4, s_43_5, s_43_6, s_43_7, s_43_8, s_43_9, s_43_10, s_43_11, s_43_12, s_43_13, s_43_14, s_43_15, s_43_16, s_43_17, s_43_18, s_43_19, W.oo, W.f, e1, h1, if_false, yAs_8 W.oo, yns_8 W.oo, h2, h3, true_and, W.fp (g + 1) (by omega), yI_sub1 (show 1 ≤ D.fp (g + 1) by omega)]
    rw [ylast, if_pos h]
  · have h1 : yI D.f ≤ yI (g + 1) := (yI_le (by omega) (by omega)).mpr (by omega)
    simp only [s_43_0, s_43_1, s_43_2, s_43_3, s_43_4, s_43_5, s_43_6, s_43_7, s_43_8, s_43_9, s_43_10, s_43_11, s_43_12, s_43_13, s_43_14, s_43_15, s_43_16, s_43_17, s_43_18, s_43_19, W.oo, W.f, e1, h1, if_true, W.n, yI_sub1 hn1]
    rw [ylast, if_neg h]
theorem m_46 (W : yW t o D) {p : Nat} (hp : p < 40) : Cl (d + 2) 46 [.ref o, .int (yI p)] (yemb t) Q ↔ Q (.inl (some (.int (yb (ylit D p))))) (yemb t) := by
  have h2 : yix (yI p) 40 := yix_I (by omega) (by omega)
  have h3 : (yI p).toNatClampNeg = p := yI_clamp (by omega)
  show G (d + 2) 46 0 [some (.ref o), some (.int (yI p))] [] (yemb t) Q ↔ _
  simp only [s_46_0, s_46_1, s_46_2, s_46_3, s_46_4, s_46_5, s_46_6, s_46_7, s_46_8, s_46_9, s_46_10, s_46_11, s_46_12, s_46_13, s_46_14, s_46_15, s_46_16, s_46_17, s_46_18, W.oo, yAs_3 W.oo, yns_3 W.oo, h2, h3, true_and, W.kd p hp, m_34 W.oo, W.bp p hp, Gk_v, xcat_nil, Nat.zero_le, Nat.reduceAdd, ybo_0, ybo_1]
  unfold ylit
  by_cases h0 : D.kd p = 0
  · cases hb : D.bp p <;> simp [h0, hb, yb]
  · by_cases h1 : D.kd p = 3
    · cases hb : D.bp p <;> simp [h0, h1, hb, yb]
    · cases hb : D.bp p <;> simp [h0, h1, hb, yb]
theorem m_47 (W : yW t o D) {c : Int32} : Cl d 47 [.ref o, .int c] (yemb t) Q ↔ Q (.inl (some (.int (ycur D.un c)))) (yemb t) := by
  show G d 47 0 [some (.ref o), some (.int c)] [] (yemb t) Q ↔ _
  have h : ¬ (765 : Int32) = 0 := by decide
  simp only [s_47_0, s_47_1, s_47_2, s_47_3, s_47_4, s_47_5, s_47_6, s_47_7, s_47_8, s_47_9, s_47_10, s_47_11, s_47_12, s_47_13, s_47_14, s_47_15, s_47_16, s_47_17, s_47_18, s_47_19, s_47_20, W.oo, W.un, h, not_false_eq_true]
  rfl
end

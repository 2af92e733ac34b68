/-! ===== strips: loops over feeds and pixels ===== -/
def yfeedF (fp : Nat → Int32) (j : Int32) : Nat → Nat → Int32 → Int32
  | 0, _, a => a
  | n + 1, i, a => yfeedF fp j n (i + 1) (if fp i ≤ j then yI i else a)
theorem l_42 {d o f : Nat} {j : Int32} {t : yT} {Q : xR → xS → Prop} (ho : yisO 4 o) (hf : t.A o 12 = yI f) (hf6 : f ≤ 6) : ∀ n i a, i + n = f → (G d 42 4 [some (.ref o), some (.int j), some (.int a), some (.int (yI i))] [] (yemb t) Q ↔ Q (.inl (some (.int (yfeedF (t.A (o + 8)) j n i a)))) (yemb t)) := by
  intro n
  induction n with
  | zero =>
    intro i a hi
    have h1 : yI f ≤ yI i := (yI_le (by omega) (by omega)).mpr (by omega)
    rw [s_42_4]
    simp only [s_42_0, s_42_1, s_42_2, s_42_3, s_42_5, s_42_6, s_42_7, s_42_8, s_42_9, s_42_10, s_42_11, s_42_12, s_42_13, s_42_14, s_42_15, s_42_16, s_42_17, s_42_18, s_42_19, ho, hf, h1, if_true, yfeedF]
  | succ n ih =>
    intro i a hi
    have h1 : ¬ yI f ≤ yI i := fun h => absurd ((yI_le (by omega) (by omega)).mp h) (by omega)
    have h2 : yix (yI i) 6 := yix_I (by omega) (by omega)
    have h3 : (yI i).toNatClampNeg = i := yI_clamp (by omega)
    have h4 : yI i + 1 = yI (i + 1) := yI_add
    rw [s_42_4]
    simp only [s_42_0, s_42_1, s_42_2, s_42_3, s_42_5, s_42_6, s_42_7, s_42_8, s_42_9, s_42_10, s_42_11, s_42_12, s_42_13, s_42_14, s_42_15, s_42_16, s_42_17, s_42_18, s_42_19, ho, hf, h1, if_false, yAs_8 ho, yns_8 ho, h2, h3, true_and, ykl_i, h4, ih (i + 1) _ (by omega)]
    simp only [yfeedF]
    by_cases h : t.A (o + 8) i ≤ j
    · have h' : ¬ j < t.A (o + 8) i := Int32.not_lt.mpr h
      simp only [h, h', if_true, if_false]
    · have h' : j < t.A (o + 8) i := Int32.not_le.mp h
      simp only [h, h', if_true, if_false]
theorem m_42 {d o f : Nat} {j : Int32} {t : yT} {Q : xR → xS → Prop} (ho : yisO 4 o) (hf : t.A o 12 = yI f) (hf6 : f ≤ 6) (hf1 : 1 ≤ f) : Cl d 42 [.ref o, .int j] (yemb t) Q ↔ Q (.inl (some (.int (yfeedF (t.A (o + 8)) j (f - 1) 1 0)))) (yemb t) := by
  show G d 42 0 [some (.ref o), some (.int j), none, none] [] (yemb t) Q ↔ _
  simp only [s_42_0, s_42_1, s_42_2, s_42_3, ykl_i]
  exact l_42 ho hf hf6 (f - 1) 1 0 (by omega)

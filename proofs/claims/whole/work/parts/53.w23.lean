/-! ===== painting on both sides ===== -/
def ypt (c : Int32) : Nat → Nat → Int32 → yD → Int32 × yD
  | 0, _, a, D => (a, D)
  | n + 1, p, a, D => ypt c n (p + 1) (if D.fm p = c then a else a + 1) { D with fm := upd D.fm p c }
theorem yfm_same {D : yD} {p : Nat} {c : Int32} (h : D.fm p = c) : { D with fm := upd D.fm p c } = D := by
  have : upd D.fm p c = D.fm := by
    funext q
    unfold upd
    split
    · rename_i e
      rw [e, h]
    · rfl
  rw [this]
theorem yp39_pt {o : Nat} {c : Int32} : ∀ n p a D t, (yp39 o c n p a D t).1 = (ypt c n p a D).1 ∧ (yp39 o c n p a D t).2.1 = (ypt c n p a D).2 := by
  intro n
  induction n with
  | zero => intro p a D t; exact ⟨rfl, rfl⟩
  | succ n ih =>
    intro p a D t
    simp only [yp39, ypt]
    by_cases h : D.fm p = c
    · rw [if_pos h, if_pos h, yfm_same h]
      exact ih (p + 1) a D t
    · rw [if_neg h, if_neg h]
      exact ih (p + 1) (a + 1) _ _
/-- the model's cells behind painting -/
def yp181 (c : Int32) : Nat → Nat → yT → yT
  | 0, _, t => t
  | n + 1, p, t => yp181 c n (p + 1) (t.s1 162 (8 + 8 * p + 7) c)
section
variable {d : Nat} {Q : xR → xS → Prop}
theorem l_181 {c : Int32} {q : Nat} (hq : q < 40) {l1 : Option Value} : ∀ n p a (t : yT) (D : yD), yM (t.A 162) D → p + n = q + 1 → (G (d + 2) 181 4 [some (.ref 160), l1, some (.int (yI q)), some (.int c), some (.int a), some (.int (yI p))] [] (yemb t) Q ↔ Q (.inl (some (.int (ypt c n p a D).1))) (yemb (yp181 c n p t))) ∧ yM ((yp181 c n p t).A 162) (ypt c n p a D).2 := by
  intro n
  induction n with
  | zero =>
    intro p a t D M hp
    have h1 : yI q < yI p := (yI_lt (by omega) (by omega)).mpr (by omega)
    refine ⟨?_, M⟩
    rw [s_181_4]
    simp only [s_181_0, s_181_1, s_181_2, s_181_3, s_181_5, s_181_6, s_181_7, s_181_8, s_181_9, s_181_10, s_181_11, s_181_12, s_181_13, s_181_14, s_181_15, s_181_16, s_181_17, s_181_18, s_181_19, s_181_20, s_181_21, s_181_22, s_181_23, s_181_24, s_181_25, s_181_26, s_181_27, h1, if_true, ypt, yp181]
  | succ n ih =>
    intro p a t D M hp
    have h1 : ¬ yI q < yI p := fun h => absurd ((yI_lt (by omega) (by omega)).mp h) (by omega)
    have h4 : yI p + 1 = yI (p + 1) := yI_add
    have M1 : yM ((t.s1 162 (8 + 8 * p + 7) c).A 162) { D with fm := upd D.fm p c } := by
      rw [ys1_upd]
      exact yM_fm M (by omega)
    have hs : ∀ {Q' : xR → xS → Prop}, Cl (d + 1) 163 [.ref 160, .int (yI p), .int 7, .int c] (yemb t) Q' ↔ Q' (.inl none) (yemb (t.s1 162 (8 + 8 * p + 7) c)) := m_163 (w := 7) (by omega) (by omega)
    simp only [ypt, yp181]
    rw [s_181_4]
    by_cases hc : D.fm p = c
    · have hih := ih (p + 1) a _ _ M1 (by omega)
      rw [if_pos hc]
      refine ⟨?_, hih.2⟩
      simp only [s_181_0, s_181_1, s_181_2, s_181_3, s_181_5, s_181_6, s_181_7, s_181_8, s_181_9, s_181_10, s_181_11, s_181_12, s_181_13, s_181_14, s_181_15, s_181_16, s_181_17, s_181_18, s_181_19, s_181_20, s_181_21, s_181_22, s_181_23, s_181_24, s_181_25, s_181_26, s_181_27, yO_160, h1, if_false, mo_fm M (show p < 40 by omega), hs, Gk_v, Gk_n, xcat_nil, xcat_i, xcat_r, Nat.zero_le, Nat.reduceAdd, Nat.reduceLeDiff, true_and, hc, ne_eq, not_true_eq_false, ykl_i, Int32.add_zero, h4, hih.1]
    · have hih := ih (p + 1) (a + 1) _ _ M1 (by omega)
      rw [if_neg hc]
      refine ⟨?_, hih.2⟩
      simp only [s_181_0, s_181_1, s_181_2, s_181_3, s_181_5, s_181_6, s_181_7, s_181_8, s_181_9, s_181_10, s_181_11, s_181_12, s_181_13, s_181_14, s_181_15, s_181_16, s_181_17, s_181_18, s_181_19, s_181_20, s_181_21, s_181_22, s_181_23, s_181_24, s_181_25, s_181_26, s_181_27, yO_160, h1, if_false, mo_fm M (show p < 40 by omega), hs, Gk_v, Gk_n, xcat_nil, xcat_i, xcat_r, Nat.zero_le, Nat.reduceAdd, Nat.reduceLeDiff, true_and, hc, ne_eq, not_false_eq_true, if_true, ykl_i, h4, hih.1]
end

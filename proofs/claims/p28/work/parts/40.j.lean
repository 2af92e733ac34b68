/-! ===== feeds there are, painting ===== -/
section
variable {d o : Nat} {D : yD} {Q : xR → xS → Prop}
theorem m_33 {t : yT} (W : yW t o D) {j : Int32} : Cl d 33 [.ref o, .int j] (yemb t) Q ↔ Q (.inl (some (.int (yb (decide (0 ≤ j ∧ j < yI D.f)))))) (yemb t) := by
  show G d 33 0 [some (.ref o), some (.int j)] [] (yemb t) Q ↔ _
  simp only [s_33_0, s_33_1, s_33_2, s_33_3, s_33_4, s_33_5, s_33_6, s_33_7, s_33_8, s_33_9, W.oo, W.f, ybo_0, ybo_1, true_and]
  by_cases h1 : j < 0
  · have h2 : ¬ 0 ≤ j := Int32.not_le.mpr h1
    simp [h1, h2, yb]
  · have h2 : 0 ≤ j := Int32.not_lt.mp h1
    by_cases h3 : yI D.f ≤ j
    · have h4 := Int32.not_lt.mpr h3
      simp [h1, h2, h3, h4, yb]
    · have h4 := Int32.not_le.mp h3
      simp [h1, h2, h3, h4, yb]
end
def ypt (c : Int32) : Nat → Nat → Int32 → yD → Int32 × yD
  | 0, _, a, D => (a, D)
  | n + 1, p, a, D => ypt c n (p + 1) (if D.fm p = c then a else a + 1) (D.sfm (upd D.fm p c))
theorem yfm_same {D : yD} {p : Nat} {c : Int32} (h : D.fm p = c) : D.sfm (upd D.fm p c) = D := by
  have : upd D.fm p c = D.fm := by
    funext q
    unfold upd
    split
    · rename_i e
      rw [e, h]
    · rfl
  rw [this]
  rfl
section
variable {d o : Nat}
theorem l_39 {c : Int32} {q : Nat} (hq : q < 40) {l1 : Option Value} : ∀ n p a (t : yT) (D : yD), yW t o D → p + n = q + 1 → ∃ u, Ga d 39 4 [some (.ref o), l1, some (.int (yI q)), some (.int c), some (.int a), some (.int (yI p))] [] (yemb t) (.inl (some (.int (ypt c n p a D).1))) (yemb u) ∧ (yW u o (ypt c n p a D).2 ∧ yFr (fun a => a = o + 1) t u) := by
  intro n
  induction n with
  | zero =>
    intro p a t D W hp
    have h1 : yI q < yI p := (yI_lt (by omega) (by omega)).mpr (by omega)
    refine ⟨t, fun Q => ?_, W, yFr.rfl'⟩
    rw [s_39_4]
    simp only [s_39_0, s_39_1, s_39_2, s_39_3, s_39_5, s_39_6, s_39_7, s_39_8, s_39_9, s_39_10, s_39_11, s_39_12, s_39_13, s_39_14, s_39_15, s_39_16, s_39_17, s_39_18, s_39_19, s_39_20, s_39_21, s_39_22, h1, if_true, ypt]
  | succ n ih =>
    intro p a t D W hp
    have h1 : ¬ yI q < yI p := fun h => absurd ((yI_lt (by omega) (by omega)).mp h) (by omega)
    have h2 : yix (yI p) 40 := yix_I (by omega) (by omega)
    have h3 : (yI p).toNatClampNeg = p := yI_clamp (by omega)
    have h4 : yI p + 1 = yI (p + 1) := yI_add
    simp only [ypt]
    by_cases hc : D.fm p = c
    · rw [if_pos hc, yfm_same hc]
      obtain ⟨u, hu, Wu, Fu⟩ := ih (p + 1) a t D W (by omega)
      refine ⟨u, fun Q => ?_, Wu, Fu⟩
      rw [s_39_4]
      simp only [s_39_0, s_39_1, s_39_2, s_39_3, s_39_5, s_39_6, s_39_7, s_39_8, s_39_9, s_39_10, s_39_11, s_39_12, s_39_13, s_39_14, s_39_15, s_39_16, s_39_17, s_39_18, s_39_19, s_39_20, s_39_21, s_39_22, W.oo, h1, if_false, yAs_1 W.oo, yns_1 W.oo, h2, h3, true_and, W.fm p (show p < 40 by omega), hc, if_true, ykl_i, h4, hu]
    · rw [if_neg hc]
      have W1 : yW (t.s1 (o + 1) p c) o (D.sfm (upd D.fm p c)) := ⟨yDok_sfm W.ok, yV_sfm W.v⟩
      obtain ⟨u, hu, Wu, Fu⟩ := ih (p + 1) (a + 1) _ _ W1 (by omega)
      refine ⟨u, fun Q => ?_, Wu, (yFr_s1 (P := fun a => a = o + 1) rfl).trans Fu (fun a h => by omega)⟩
      rw [s_39_4]
      simp only [s_39_0, s_39_1, s_39_2, s_39_3, s_39_5, s_39_6, s_39_7, s_39_8, s_39_9, s_39_10, s_39_11, s_39_12, s_39_13, s_39_14, s_39_15, s_39_16, s_39_17, s_39_18, s_39_19, s_39_20, s_39_21, s_39_22, W.oo, h1, if_false, yAs_1 W.oo, yns_1 W.oo, h2, h3, true_and, W.fm p (show p < 40 by omega), hc, ykl_i, h4, hu]
theorem m_39 {c : Int32} {f q : Nat} (hf : f ≤ q + 1) (hq : q < 40) {t : yT} {D : yD} (W : yW t o D) : ∃ u, Ra d 39 [.ref o, .int (yI f), .int (yI q), .int c] (yemb t) (.inl (some (.int (ypt c (q + 1 - f) f 0 D).1))) (yemb u) ∧ (yW u o (ypt c (q + 1 - f) f 0 D).2 ∧ yFr (fun a => a = o + 1) t u) := by
  obtain ⟨u, hu, Wu, Fu⟩ := l_39 (d := d) (c := c) hq (l1 := some (.int (yI f))) (q + 1 - f) f 0 t D W (by omega)
  refine ⟨u, fun Q => ?_, Wu, Fu⟩
  show G d 39 0 [some (.ref o), some (.int (yI f)), some (.int (yI q)), some (.int c), none, none] [] (yemb t) Q ↔ _
  simp only [s_39_0, s_39_1, s_39_2, s_39_3, Gk_v, Gk_n, xcat_nil, xcat_i, xcat_r, xcat_l, xcat_d, Nat.zero_le, Nat.reduceAdd, Nat.reduceLeDiff, true_and, and_true, ykl_i, ykl_r, ykl_n, ykl_l]
  exact hu Q
end
section
variable {d : Nat}
end

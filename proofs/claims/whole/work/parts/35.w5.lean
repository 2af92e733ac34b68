/-! ===== strips: shared colors and the current ===== -/
theorem m_121 {d : Nat} {r g b : Int32} {σ : xS} {Q : xR → xS → Prop} : Cl d 121 [.int r, .int g, .int b] σ Q ↔ Q (.inl (some (.int (yrgb r g b)))) σ := by
  show G d 121 0 [some (.int r), some (.int g), some (.int b)] [] σ Q ↔ _
  simp only [s_121_0, s_121_1, s_121_2, s_121_3, s_121_4, s_121_5, s_121_6, s_121_7, s_121_8, s_121_9]
  rfl
theorem m_49 {d : Nat} {c lim ld : Int32} {σ : xS} {Q : xR → xS → Prop} : Cl (d + 1) 49 [.int c, .int lim, .int ld] σ Q ↔ Q (.inl (some (.int (yshare c lim ld)))) σ := by
  show G (d + 1) 49 0 [some (.int c), some (.int lim), some (.int ld), none, none, none] [] σ Q ↔ _
  unfold yshare
  by_cases h1 : ld ≤ lim
  · simp only [s_49_0, s_49_1, s_49_2, s_49_3, s_49_4, s_49_5, s_49_6, s_49_7, s_49_8, s_49_9, s_49_10, s_49_11, s_49_12, s_49_13, s_49_14, s_49_15, s_49_16, s_49_17, s_49_18, s_49_19, s_49_20, s_49_21, s_49_22, s_49_23, s_49_24, s_49_25, s_49_26, s_49_27, s_49_28, s_49_29, s_49_30, s_49_31, s_49_32, s_49_33, s_49_34, s_49_35, s_49_36, s_49_37, s_49_38, s_49_39, h1, if_true, true_or]
  · by_cases h2 : 0 < ld
    · have h3 : ¬ ld ≤ 0 := Int32.not_le.mpr h2
      have h4 : ¬ ld = 0 := by
        intro h
        subst h
        exact absurd h2 (by decide)
      simp only [s_49_0, s_49_1, s_49_2, s_49_3, s_49_4, s_49_5, s_49_6, s_49_7, s_49_8, s_49_9, s_49_10, s_49_11, s_49_12, s_49_13, s_49_14, s_49_15, s_49_16, s_49_17, s_49_18, s_49_19, s_49_20, s_49_21, s_49_22, s_49_23, s_49_24, s_49_25, s_49_26, s_49_27, s_49_28, s_49_29, s_49_30, s_49_31, s_49_32, s_49_33, s_49_34, s_49_35, s_49_36, s_49_37, s_49_38, s_49_39, h1, h2, h3, h4, if_true, if_false, or_self, not_false_eq_true, ykl_i, m_121, Gk_v, xcat_nil, Nat.zero_le, Nat.reduceAdd, true_and]
    · have h3 : ld ≤ 0 := Int32.not_lt.mp h2
      simp only [s_49_0, s_49_1, s_49_2, s_49_3, s_49_4, s_49_5, s_49_6, s_49_7, s_49_8, s_49_9, s_49_10, s_49_11, s_49_12, s_49_13, s_49_14, s_49_15, s_49_16, s_49_17, s_49_18, s_49_19, s_49_20, s_49_21, s_49_22, s_49_23, s_49_24, s_49_25, s_49_26, s_49_27, s_49_28, s_49_29, s_49_30, s_49_31, s_49_32, s_49_33, s_49_34, s_49_35, s_49_36, s_49_37, s_49_38, s_49_39, h1, h2, h3, if_true, if_false, or_true]
section
variable {d o : Nat} {t : yT} {D : yD} {Q : xR → xS → Prop}
def yflow (D : yD) (g : Nat) (a : Int32) : Int32 := yfold (fun p a => if ylit D p then a + ycur D.un (yshare (D.tk p) (D.fl g) (yload D g)) else a) (ylast D g + 1 - D.fp g) (D.fp g) a
def ycurrent (D : yD) : Int32 := yfold (fun g a => yflow D g a) D.f 0 0
theorem yfp_last (h : yDok D) {g : Nat} (hg : g < D.f) : D.fp g ≤ ylast D g := by
  unfold ylast
  split
  · rename_i h1
    have := h.fpm g h1
    omega
  · have := h.fpn g hg
    omega
theorem l_50i (W : yW t o D) {g : Nat} (hg : g < D.f) : ∀ n p a, p + n = ylast D g + 1 → (G (d + 4) 50 17 [some (.ref o), some (.int a), some (.int (yI g)), some (.int (yload D g)), some (.int (yI p))] [] (yemb t) Q ↔ G (d + 4) 50 43 [some (.ref o), some (.int (yfold (fun p a => if ylit D p then a + ycur D.un (yshare (D.tk p) (D.fl g) (yload D g)) else a) n p a)), some (.int (yI g)), some (.int (yload D g)), some (.int (yI (p + n)))] [] (yemb t) Q) := by
  have hn40 := W.ok.n40
  have hf6 := W.ok.f6
  have hl := ylast_lt W.ok hg
  have h5 : yix (yI g) 6 := yix_I (by omega) (by omega)
  have h6 : (yI g).toNatClampNeg = g := yI_clamp (by omega)
  intro n
  induction n with
  | zero =>
    intro p a hp
    have h1 : yI (ylast D g) < yI p := (yI_lt (by omega) (by omega)).mpr (by omega)
    rw [s_50_17]
    simp only [s_50_0, s_50_1, s_50_2, s_50_3, s_50_4, s_50_5, s_50_6, s_50_7, s_50_8, s_50_9, s_50_10, s_50_11, s_50_12, s_50_13, s_50_14, s_50_15, s_50_16, s_50_18, s_50_19, s_50_20, s_50_21, s_50_22, s_50_23, s_50_24, s_50_25, s_50_26, s_50_27, s_50_28, s_50_29, s_50_30, s_50_31, s_50_32, s_50_33, s_50_34, s_50_35, s_50_36, s_50_37, s_50_38, s_50_39, s_50_40, s_50_41, s_50_42, s_50_44, s_50_45, s_50_46, W.oo, m_43 W hg, Gk_v, xcat_nil, xcat_i, Nat.reduceAdd, Nat.reduceLeDiff, true_and, h1, if_true, yfold, Nat.add_zero]
  | succ n ih =>
    intro p a hp
    have h1 : ¬ yI (ylast D g) < yI p := fun h => absurd ((yI_lt (by omega) (by omega)).mp h) (by omega)
    have h2 : yix (yI p) 40 := yix_I (by omega) (by omega)
    have h3 : (yI p).toNatClampNeg = p := yI_clamp (by omega)
    have h4 : yI p + 1 = yI (p + 1) := yI_add
    rw [s_50_17]
    simp only [s_50_0, s_50_1, s_50_2, s_50_3, s_50_4, s_50_5, s_50_6, s_50_7, s_50_8, s_50_9, s_50_10, s_50_11, s_50_12, s_50_13, s_50_14, s_50_15, s_50_16, s_50_18, s_50_19, s_50_20, s_50_21, s_50_22, s_50_23, s_50_24, s_50_25, s_50_26, s_50_27, s_50_28, s_50_29, s_50_30, s_50_31, s_50_32, s_50_33, s_50_34, s_50_35, s_50_36, s_50_37, s_50_38, s_50_39, s_50_40, s_50_41, s_50_42, s_50_44, s_50_45, s_50_46, W.oo, m_43 W hg, m_46 W (show p < 40 by omega), m_47 W, m_49, Gk_v, xcat_nil, xcat_i, xcat_r, Nat.reduceAdd, Nat.reduceLeDiff, true_and, h1, if_false, ifb, ykl_i, ykl_r, h4, yAs_6 W.oo, yns_6 W.oo, yAs_9 W.oo, yns_9 W.oo, h2, h3, h5, h6, W.tk p (by omega), W.fl g (by omega), ih (p + 1) _ (by omega)]
    simp only [yfold, show p + 1 + n = p + (n + 1) by omega]
    cases hb : ylit D p <;> simp
theorem l_50 (W : yW t o D) : ∀ n g a l3 l4, g + n = D.f → (G (d + 4) 50 4 [some (.ref o), some (.int a), some (.int (yI g)), l3, l4] [] (yemb t) Q ↔ Q (.inl (some (.int (yfold (fun g a => yflow D g a) n g a)))) (yemb t)) := by
  have hn40 := W.ok.n40
  have hf6 := W.ok.f6
  intro n
  induction n with
  | zero =>
    intro g a l3 l4 hg
    have h1 : yI D.f ≤ yI g := (yI_le (by omega) (by omega)).mpr (by omega)
    rw [s_50_4]
    simp only [s_50_0, s_50_1, s_50_2, s_50_3, s_50_5, s_50_6, s_50_7, s_50_8, s_50_9, s_50_10, s_50_11, s_50_12, s_50_13, s_50_14, s_50_15, s_50_16, s_50_17, s_50_18, s_50_19, s_50_20, s_50_21, s_50_22, s_50_23, s_50_24, s_50_25, s_50_26, s_50_27, s_50_28, s_50_29, s_50_30, s_50_31, s_50_32, s_50_33, s_50_34, s_50_35, s_50_36, s_50_37, s_50_38, s_50_39, s_50_40, s_50_41, s_50_42, s_50_43, s_50_44, s_50_45, s_50_46, W.oo, W.f, h1, if_true, yfold]
  | succ n ih =>
    intro g a l3 l4 hg
    have hgf : g < D.f := by omega
    have h1 : ¬ yI D.f ≤ yI g := fun h => absurd ((yI_le (by omega) (by omega)).mp h) (by omega)
    have h5 : yix (yI g) 6 := yix_I (by omega) (by omega)
    have h6 : (yI g).toNatClampNeg = g := yI_clamp (by omega)
    have h4 : yI g + 1 = yI (g + 1) := yI_add
    have hfl := yfp_last W.ok hgf
    rw [s_50_4]
    simp only [s_50_0, s_50_1, s_50_2, s_50_3, s_50_5, s_50_6, s_50_7, s_50_8, s_50_9, s_50_10, s_50_11, s_50_12, s_50_13, s_50_14, s_50_15, s_50_16, s_50_18, s_50_19, s_50_20, s_50_21, s_50_22, s_50_23, s_50_24, s_50_25, s_50_26, s_50_27, s_50_28, s_50_29, s_50_30, s_50_31, s_50_32, s_50_33, s_50_34, s_50_35, s_50_36, s_50_37, s_50_38, s_50_39, s_50_40, s_50_41, s_50_42, s_50_43, s_50_44, s_50_45, s_50_46, W.oo, W.f, h1, if_false, m_44 W hgf, Gk_v, xcat_nil, Nat.zero_le, Nat.reduceAdd, true_and, ykl_i, yAs_8 W.oo, yns_8 W.oo, h5, h6, W.fp g (show g < 6 by omega), l_50i W hgf (ylast D g + 1 - D.fp g) (D.fp g) a (by omega), ykl_r, h4, ih (g + 1) _ _ _ (show g + 1 + n = D.f by omega)]
    simp only [yfold, yflow]
theorem m_50 (W : yW t o D) : Cl (d + 4) 50 [.ref o] (yemb t) Q ↔ Q (.inl (some (.int (ycurrent D)))) (yemb t) := by
  show G (d + 4) 50 0 [some (.ref o), none, none, none, none] [] (yemb t) Q ↔ _
  simp only [s_50_0, s_50_1, s_50_2, s_50_3, ykl_i, ykl_r]
  exact l_50 W D.f 0 0 none none (Nat.zero_add _)
def yfeed (D : yD) (p : Nat) : Nat := yfold (fun g a => if D.fp g ≤ p then g else a) (D.f - 1) 1 0
theorem yfeed_lt (h : yDok D) (p : Nat) : yfeed D p < D.f := by
  have h1 := h.f1
  have : ∀ n g a, g + n ≤ D.f → a < D.f → yfold (fun g a => if D.fp g ≤ p then g else a) n g a < D.f := by
    intro n
    induction n with
    | zero => intro g a _ ha; exact ha
    | succ n ih =>
      intro g a hg ha
      simp only [yfold]
      apply ih (g + 1) _ (by omega)
      split <;> omega
  exact this _ _ _ (by omega) (by omega)
theorem yfeedF_eq (W : yW t o D) {p : Nat} (hp : p < 40) : ∀ n g a, g + n ≤ D.f → yfeedF (t.A (o + 8)) (yI p) n g (yI a) = yI (yfold (fun g a => if D.fp g ≤ p then g else a) n g a) := by
  have hf6 := W.ok.f6
  have hn40 := W.ok.n40
  intro n
  induction n with
  | zero => intro g a _; rfl
  | succ n ih =>
    intro g a hg
    have h1 := W.ok.fpn g (by omega)
    simp only [yfeedF, yfold, W.fp g (show g < 6 by omega)]
    by_cases h : D.fp g ≤ p
    · have h2 : yI (D.fp g) ≤ yI p := (yI_le (by omega) (by omega)).mpr h
      rw [if_pos h2, if_pos h]
      exact ih (g + 1) g (by omega)
    · have h2 : ¬ yI (D.fp g) ≤ yI p := fun h' => h ((yI_le (by omega) (by omega)).mp h')
      rw [if_neg h2, if_neg h]
      exact ih (g + 1) a (by omega)
theorem m_42' (W : yW t o D) {p : Nat} (hp : p < 40) : Cl d 42 [.ref o, .int (yI p)] (yemb t) Q ↔ Q (.inl (some (.int (yI (yfeed D p))))) (yemb t) := by
  have h1 := W.ok.f1
  rw [m_42 W.oo W.f W.ok.f6 h1]
  have h := yfeedF_eq W hp (D.f - 1) 1 0 (by omega)
  rw [show (0 : Int32) = yI 0 from rfl, h]
  rfl
def yshown (D : yD) (p : Nat) : Int32 := if ylit D p then yshare (D.tk p) (D.fl (yfeed D p)) (yload D (yfeed D p)) else 0
theorem m_48 (W : yW t o D) {p : Nat} (hp : p < 40) : Cl (d + 4) 48 [.ref o, .int (yI p)] (yemb t) Q ↔ Q (.inl (some (.int (yshown D p)))) (yemb t) := by
  have hf6 := W.ok.f6
  have hfe := yfeed_lt W.ok p
  have h2 : yix (yI p) 40 := yix_I (by omega) (by omega)
  have h3 : (yI p).toNatClampNeg = p := yI_clamp (by omega)
  have h5 : yix (yI (yfeed D p)) 6 := yix_I (by omega) (by omega)
  have h6 : (yI (yfeed D p)).toNatClampNeg = yfeed D p := yI_clamp (by omega)
  show G (d + 4) 48 0 [some (.ref o), some (.int (yI p)), none] [] (yemb t) Q ↔ _
  simp only [s_48_0, s_48_1, s_48_2, s_48_3, s_48_4, s_48_5, s_48_6, s_48_7, s_48_8, s_48_9, s_48_10, s_48_11, s_48_12, s_48_13, s_48_14, s_48_15, s_48_16, s_48_17, s_48_18, s_48_19, s_48_20, s_48_21, s_48_22, W.oo, m_46 W hp, m_42' W hp, m_44 W hfe, m_49, Gk_v, xcat_nil, xcat_i, xcat_r, Nat.reduceAdd, Nat.reduceLeDiff, Nat.zero_le, true_and, ifbn, ykl_i, yAs_6 W.oo, yns_6 W.oo, yAs_9 W.oo, yns_9 W.oo, h2, h3, h5, h6, W.tk p hp, W.fl (yfeed D p) (by omega)]
  unfold yshown
  cases hb : ylit D p <;> simp
end

/-! ===== strips: sendRow ===== -/
def ystut (D : yD) (p : Nat) : Bool := decide (D.kd p = 3) && (decide (0 < D.pd p) && decide ((D.fr p + 1) - (D.fr p + 1) / D.pd p * D.pd p = 0))
theorem yW_row {t : yT} {o : Nat} {D : yD} {j : Nat} {v : Int32} (W : yW t o D) : yW (t.s1 (o + 10) j v) o D :=
  yW_fr W (yFr_s1 (P := fun a => a = o + 10) rfl) (fun a _ _ (h : a = o + 10) => by omega)
section
variable {d o : Nat} {D : yD} {Q : xR → xS → Prop}
theorem m_57 {t : yT} (W : yW t o D) {p : Nat} (hp : p < 40) : Cl d 57 [.ref o, .int (yI p)] (yemb t) Q ↔ Q (.inl (some (.int (yb (ystut D p))))) (yemb t) := by
  have h2 : yix (yI p) 40 := yix_I (by omega) (by omega)
  have h3 : (yI p).toNatClampNeg = p := yI_clamp (by omega)
  show G d 57 0 [some (.ref o), some (.int (yI p))] [] (yemb t) Q ↔ _
  unfold ystut
  by_cases hk : D.kd p = 3
  · by_cases h0 : 0 < D.pd p
    · have h5 : ¬ D.pd p ≤ 0 := Int32.not_le.mpr h0
      have h6 : ¬ D.pd p = 0 := by
        intro h
        rw [h] at h0
        exact absurd h0 (by decide)
      simp only [s_57_0, s_57_1, s_57_2, s_57_3, s_57_4, s_57_5, s_57_6, s_57_7, s_57_8, s_57_9, s_57_10, s_57_11, s_57_12, s_57_13, s_57_14, s_57_15, s_57_16, s_57_17, s_57_18, s_57_19, s_57_20, s_57_21, s_57_22, s_57_23, s_57_24, s_57_25, s_57_26, W.oo, yAs_3 W.oo, yns_3 W.oo, yAs_4 W.oo, yns_4 W.oo, yAs_5 W.oo, yns_5 W.oo, h2, h3, true_and, W.kd p hp, W.pd p hp, W.fr p hp, hk, h5, h6, ne_eq, not_true_eq_false, not_false_eq_true, if_false, ybo_0, ybo_1]
      by_cases h7 : (D.fr p + 1) - (D.fr p + 1) / D.pd p * D.pd p = 0
      · simp [h0, h7, yb]
      · simp [h0, h7, yb]
    · have h5 : D.pd p ≤ 0 := Int32.not_lt.mp h0
      simp only [s_57_0, s_57_1, s_57_2, s_57_3, s_57_4, s_57_5, s_57_6, s_57_7, s_57_8, s_57_9, s_57_10, s_57_11, s_57_12, s_57_13, s_57_14, s_57_15, s_57_16, s_57_17, s_57_18, s_57_19, s_57_20, s_57_21, s_57_22, s_57_23, s_57_24, s_57_25, s_57_26, W.oo, yAs_3 W.oo, yns_3 W.oo, yAs_4 W.oo, yns_4 W.oo, h2, h3, true_and, W.kd p hp, W.pd p hp, hk, h5, ne_eq, not_true_eq_false, if_false, if_true, ybo_0]
      simp [h0, yb]
  · simp only [s_57_0, s_57_1, s_57_2, s_57_3, s_57_4, s_57_5, s_57_6, s_57_7, s_57_8, s_57_9, s_57_10, s_57_11, s_57_12, s_57_13, s_57_14, s_57_15, s_57_16, s_57_17, s_57_18, s_57_19, s_57_20, s_57_21, s_57_22, s_57_23, s_57_24, s_57_25, s_57_26, W.oo, yAs_3 W.oo, yns_3 W.oo, h2, h3, true_and, W.kd p hp, hk, ne_eq, not_false_eq_true, if_true, ybo_0]
    simp [yb]
theorem m_56 {t : yT} (W : yW t o D) {i : Int32} {s : Int64} {b : Nat → Bool} (hs : ∀ p, p < 40 → yin s (yI p) = b p) {p : Nat} (hi : i + 1 = yI p) (hp : p ≤ D.n) : Cl (d + 1) 56 [.ref o, .int i, .long s] (yemb t) Q ↔ Q (.inl (some (.int (yI (ynx b (D.n - p) p))))) (yemb t) := by
  show G (d + 1) 56 0 [some (.ref o), some (.int i), some (.long s), none, none] [] (yemb t) Q ↔ _
  simp only [s_56_0, s_56_1, s_56_2, s_56_3, ykl_n, hi]
  exact l_56 W hs (D.n - p) p (by omega)
def ybeg (D : yD) (b : Nat → Bool) (p first : Nat) : Nat := if D.kd p = 1 then D.n else if ystut D p = true then first else ynx b (D.n - (first + 1)) (first + 1)
def yrowF (D : yD) (b : Nat → Bool) (o : Nat) : Nat → Nat → Nat → yT → yT
  | 0, _, _, t => t
  | n + 1, p, first, t => if first < D.n then (if b p = true then yrowF D b o n (p + 1) first (t.s1 (o + 10) p (-1)) else yrowF D b o n (p + 1) (ybeg D b p first) ((t.s1 (o + 10) p (-1)).s1 (o + 10) p (yI first))) else yrowF D b o n (p + 1) first (t.s1 (o + 10) p (-1))
theorem ybeg_le {D : yD} {b : Nat → Bool} {p first : Nat} (h : first < D.n) : ybeg D b p first ≤ D.n := by
  unfold ybeg
  have := ynx_le (b := b) (D.n - (first + 1)) (first + 1)
  split
  · omega
  · split <;> omega
theorem l_55 {s : Int64} {b : Nat → Bool} (hs : ∀ p, p < 40 → yin s (yI p) = b p) : ∀ n p first (t : yT), yW t o D → p + n = D.n → first ≤ D.n → (G (d + 2) 55 7 [some (.ref o), some (.long s), none, some (.int (yI first)), some (.int (yI p))] [] (yemb t) Q ↔ Q (.inl none) (yemb (yrowF D b o n p first t))) := by
  intro n
  induction n with
  | zero =>
    intro p first t W hp hf
    have hn40 := W.ok.n40
    have h1 : yI D.n ≤ yI p := (yI_le (by omega) (by omega)).mpr (by omega)
    rw [s_55_7]
    simp only [s_55_0, s_55_1, s_55_2, s_55_3, s_55_4, s_55_5, s_55_6, s_55_8, s_55_9, s_55_10, s_55_11, s_55_12, s_55_13, s_55_14, s_55_15, s_55_16, s_55_17, s_55_18, s_55_19, s_55_20, s_55_21, s_55_22, s_55_23, s_55_24, s_55_25, s_55_26, s_55_27, s_55_28, s_55_29, s_55_30, s_55_31, s_55_32, s_55_33, s_55_34, s_55_35, s_55_36, s_55_37, s_55_38, s_55_39, s_55_40, s_55_41, s_55_42, s_55_43, s_55_44, s_55_45, s_55_46, s_55_47, s_55_48, s_55_49, s_55_50, W.oo, W.n, h1, if_true, yrowF]
  | succ n ih =>
    intro p first t W hp hf
    have hn40 := W.ok.n40
    have h1 : ¬ yI D.n ≤ yI p := fun h => absurd ((yI_le (by omega) (by omega)).mp h) (by omega)
    have h2 : yix (yI p) 40 := yix_I (by omega) (by omega)
    have h3 : (yI p).toNatClampNeg = p := yI_clamp (by omega)
    have h4 : yI p + 1 = yI (p + 1) := yI_add
    have W1 := yW_row (j := p) (v := -1) W
    simp only [yrowF]
    rw [s_55_7]
    by_cases hfn : first < D.n
    · have h5 : ¬ yI D.n ≤ yI first := fun h => absurd ((yI_le (by omega) (by omega)).mp h) (by omega)
      rw [if_pos hfn]
      cases hb : b p
      · have W2 := yW_row (j := p) (v := yI first) W1
        have hih := ih (p + 1) (ybeg D b p first) ((t.s1 (o + 10) p (-1)).s1 (o + 10) p (yI first)) W2 (by omega) (ybeg_le hfn)
        unfold ybeg at hih ⊢
        by_cases hk : D.kd p = 1
        · simp only [hk, if_true] at hih ⊢
          simp only [s_55_0, s_55_1, s_55_2, s_55_3, s_55_4, s_55_5, s_55_6, s_55_8, s_55_9, s_55_10, s_55_11, s_55_12, s_55_13, s_55_14, s_55_15, s_55_16, s_55_17, s_55_18, s_55_19, s_55_20, s_55_21, s_55_22, s_55_23, s_55_24, s_55_25, s_55_26, s_55_27, s_55_28, s_55_29, s_55_30, s_55_31, s_55_32, s_55_33, s_55_34, s_55_35, s_55_36, s_55_37, s_55_38, s_55_39, s_55_40, s_55_41, s_55_42, s_55_43, s_55_44, s_55_45, s_55_46, s_55_47, s_55_48, s_55_49, s_55_50, W.oo, W.n, h1, if_false, yAs_10 W.oo, yns_10 W.oo, yAs_3 W.oo, yns_3 W.oo, h2, h3, true_and, W1.n, W2.n, h5, m_64, hs p (show p < 40 by omega), hb, Gk_v, xcat_nil, Nat.zero_le, Nat.reduceAdd, ifbn, Bool.false_eq_true, W2.kd p (show p < 40 by omega), hk, ne_eq, not_true_eq_false, ykl_n, ykl_i, h4, hih]
        · simp only [hk, if_false] at hih ⊢
          cases hst : ystut D p
          · simp only [hst, Bool.false_eq_true, if_false] at hih ⊢
            simp only [s_55_0, s_55_1, s_55_2, s_55_3, s_55_4, s_55_5, s_55_6, s_55_8, s_55_9, s_55_10, s_55_11, s_55_12, s_55_13, s_55_14, s_55_15, s_55_16, s_55_17, s_55_18, s_55_19, s_55_20, s_55_21, s_55_22, s_55_23, s_55_24, s_55_25, s_55_26, s_55_27, s_55_28, s_55_29, s_55_30, s_55_31, s_55_32, s_55_33, s_55_34, s_55_35, s_55_36, s_55_37, s_55_38, s_55_39, s_55_40, s_55_41, s_55_42, s_55_43, s_55_44, s_55_45, s_55_46, s_55_47, s_55_48, s_55_49, s_55_50, W.oo, W.n, h1, if_false, yAs_10 W.oo, yns_10 W.oo, yAs_3 W.oo, yns_3 W.oo, h2, h3, true_and, W1.n, W2.n, h5, m_64, hs p (show p < 40 by omega), hb, m_57 W2 (show p < 40 by omega), hst, m_56 W2 hs (show yI first + 1 = yI (first + 1) from yI_add) (show first + 1 ≤ D.n by omega), Gk_v, xcat_nil, Nat.zero_le, Nat.reduceAdd, ifbn, Bool.false_eq_true, W2.kd p (show p < 40 by omega), hk, ne_eq, not_false_eq_true, if_true, ykl_n, ykl_i, h4, hih]
          · simp only [hst, if_true] at hih ⊢
            simp only [s_55_0, s_55_1, s_55_2, s_55_3, s_55_4, s_55_5, s_55_6, s_55_8, s_55_9, s_55_10, s_55_11, s_55_12, s_55_13, s_55_14, s_55_15, s_55_16, s_55_17, s_55_18, s_55_19, s_55_20, s_55_21, s_55_22, s_55_23, s_55_24, s_55_25, s_55_26, s_55_27, s_55_28, s_55_29, s_55_30, s_55_31, s_55_32, s_55_33, s_55_34, s_55_35, s_55_36, s_55_37, s_55_38, s_55_39, s_55_40, s_55_41, s_55_42, s_55_43, s_55_44, s_55_45, s_55_46, s_55_47, s_55_48, s_55_49, s_55_50, W.oo, W.n, h1, if_false, yAs_10 W.oo, yns_10 W.oo, yAs_3 W.oo, yns_3 W.oo, h2, h3, true_and, W1.n, W2.n, h5, m_64, hs p (show p < 40 by omega), hb, m_57 W2 (show p < 40 by omega), hst, Gk_v, xcat_nil, Nat.zero_le, Nat.reduceAdd, ifbn, Bool.false_eq_true, W2.kd p (show p < 40 by omega), hk, ne_eq, not_false_eq_true, if_true, ykl_n, ykl_i, h4, hih]
      · have hih := ih (p + 1) first (t.s1 (o + 10) p (-1)) W1 (by omega) hf
        simp only [s_55_0, s_55_1, s_55_2, s_55_3, s_55_4, s_55_5, s_55_6, s_55_8, s_55_9, s_55_10, s_55_11, s_55_12, s_55_13, s_55_14, s_55_15, s_55_16, s_55_17, s_55_18, s_55_19, s_55_20, s_55_21, s_55_22, s_55_23, s_55_24, s_55_25, s_55_26, s_55_27, s_55_28, s_55_29, s_55_30, s_55_31, s_55_32, s_55_33, s_55_34, s_55_35, s_55_36, s_55_37, s_55_38, s_55_39, s_55_40, s_55_41, s_55_42, s_55_43, s_55_44, s_55_45, s_55_46, s_55_47, s_55_48, s_55_49, s_55_50, W.oo, W.n, h1, if_false, yAs_10 W.oo, yns_10 W.oo, h2, h3, true_and, W1.n, h5, m_64, hs p (show p < 40 by omega), hb, Gk_v, xcat_nil, Nat.zero_le, Nat.reduceAdd, ifbn, if_true, ykl_i, h4, hih]
    · have h5 : yI D.n ≤ yI first := (yI_le (by omega) (by omega)).mpr (by omega)
      rw [if_neg hfn]
      have hih := ih (p + 1) first (t.s1 (o + 10) p (-1)) W1 (by omega) hf
      simp only [s_55_0, s_55_1, s_55_2, s_55_3, s_55_4, s_55_5, s_55_6, s_55_8, s_55_9, s_55_10, s_55_11, s_55_12, s_55_13, s_55_14, s_55_15, s_55_16, s_55_17, s_55_18, s_55_19, s_55_20, s_55_21, s_55_22, s_55_23, s_55_24, s_55_25, s_55_26, s_55_27, s_55_28, s_55_29, s_55_30, s_55_31, s_55_32, s_55_33, s_55_34, s_55_35, s_55_36, s_55_37, s_55_38, s_55_39, s_55_40, s_55_41, s_55_42, s_55_43, s_55_44, s_55_45, s_55_46, s_55_47, s_55_48, s_55_49, s_55_50, W.oo, W.n, h1, if_false, yAs_10 W.oo, yns_10 W.oo, h2, h3, true_and, W1.n, h5, if_true, ykl_i, h4, hih]
end
/-! ===== strips: what sendRow leaves ===== -/
theorem ysA_sA {t : yT} {a : Nat} {f g : Nat → Int32} : (t.sA a f).sA a g = t.sA a g := by
  refine Prod.ext ?_ rfl
  funext b
  show (if b = a then g else if b = a then f else t.A b) = if b = a then g else t.A b
  split <;> rfl
theorem ysA_self {t : yT} {a : Nat} : t.sA a (t.A a) = t := by
  refine Prod.ext ?_ rfl
  funext b
  show (if b = a then t.A a else t.A b) = t.A b
  split
  · rename_i h
    rw [h]
  · rfl
/-- the row that is sent -/
def yrw (D : yD) (b : Nat → Bool) : Nat → Nat → Nat → (Nat → Int32) → (Nat → Int32)
  | 0, _, _, r => r
  | n + 1, p, first, r => if first < D.n then (if b p = true then yrw D b n (p + 1) first (upd r p (-1)) else yrw D b n (p + 1) (ybeg D b p first) (upd (upd r p (-1)) p (yI first))) else yrw D b n (p + 1) first (upd r p (-1))
theorem yrowF_eq {D : yD} {b : Nat → Bool} {o : Nat} : ∀ n p first (t : yT), yrowF D b o n p first t = t.sA (o + 10) (yrw D b n p first (t.A (o + 10))) := by
  intro n
  induction n with
  | zero =>
    intro p first t
    exact ysA_self.symm
  | succ n ih =>
    intro p first t
    simp only [yrowF, yrw, ih, yT.s1, ysA_sA, ysA_same]
    split
    · split <;> rfl
    · rfl
section
variable {d o : Nat} {D : yD} {t : yT} {Q : xR → xS → Prop}
/-- the row behind sendRow -/
def ysent (D : yD) (b : Nat → Bool) (r : Nat → Int32) : Nat → Int32 := yrw D b D.n 0 (ynx b D.n 0) r
theorem m_55 (W : yW t o D) {s : Int64} {b : Nat → Bool} (hs : ∀ p, p < 40 → yin s (yI p) = b p) : Cl (d + 2) 55 [.ref o, .long s] (yemb t) Q ↔ Q (.inl none) (yemb (t.sA (o + 10) (ysent D b (t.A (o + 10))))) := by
  have h0 : (-1 : Int32) + 1 = yI 0 := by decide
  have hl := ynx_le (b := b) D.n 0
  show G (d + 2) 55 0 [some (.ref o), some (.long s), none, none, none] [] (yemb t) Q ↔ _
  simp only [s_55_0, s_55_1, s_55_2, s_55_3 W.oo, s_55_4, s_55_5, s_55_6, m_56 W hs h0 (Nat.zero_le _), Gk_v, xcat_nil, Nat.zero_le, Nat.reduceAdd, true_and, ykl_n, ykl_i, Nat.sub_zero]
  rw [show (0 : Int32) = yI 0 from rfl, l_55 hs D.n 0 (ynx b D.n 0) t W (Nat.zero_add _) (by omega), yrowF_eq]
  rfl
end

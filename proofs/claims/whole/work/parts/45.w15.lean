/-! ===== strips: sendRow ===== -/
def ystut (D : yD) (p : Nat) : Bool := decide (D.kd p = 3) && (decide (0 < D.pd p) && decide ((D.fr p + 1) - (D.fr p + 1) / D.pd p * D.pd p = 0))
theorem ys1_L {t : yT} {a j : Nat} {v : Int32} : (t.s1 a j v).L = t.L := rfl
theorem ys1_R {t : yT} {a j : Nat} {v : Int32} : (t.s1 a j v).R = t.R := rfl
theorem ys1_K {t : yT} {a j : Nat} {v : Int32} : (t.s1 a j v).K = t.K := rfl
theorem ys1_z {t : yT} {a j : Nat} {v : Int32} : (t.s1 a j v).z = t.z := rfl
/-- the row isn't of the strip's data -/
theorem yW_row {t : yT} {o : Nat} {D : yD} {j : Nat} {v : Int32} (W : yW t o D) : yW (t.s1 (o + 10) j v) o D := by
  refine ⟨W.ok, W.oo, ?_, ?_, ?_, ?_, ?_, ?_, ?_, ?_, ?_, ?_, ?_, ?_, ?_, ?_, ?_, ?_⟩
  · rw [ys1_ne (by omega)]; exact W.n
  · rw [ys1_ne (by omega)]; exact W.un
  · rw [ys1_ne (by omega)]; exact W.lv
  · rw [ys1_ne (by omega)]; exact W.f
  · rw [ys1_ne (by omega)]; exact W.sh
  · rw [ys1_ne (by omega)]; exact W.ac
  · exact W.bp
  · rw [ys1_ne (by omega)]; exact W.fm
  · rw [ys1_ne (by omega)]; exact W.du
  · rw [ys1_ne (by omega)]; exact W.kd
  · rw [ys1_ne (by omega)]; exact W.pd
  · rw [ys1_ne (by omega)]; exact W.fr
  · rw [ys1_ne (by omega)]; exact W.tk
  · rw [ys1_ne (by omega)]; exact W.og
  · rw [ys1_ne (by omega)]; exact W.fp
  · rw [ys1_ne (by omega)]; exact W.fl
section
variable {d o : Nat} {D : yD} {Q : xR → xS → Prop}
theorem m_57 {t : yT} (W : yW t o D) {p : Nat} (hp : p < 40) : Cl d 57 [.ref o, .int (yI p)] (yemb t) Q ↔ Q (.inl (some (.int (yb (ystut D p))))) (yemb t) := by
  have h2 : yix (yI p) 40 := yix_I (by omega) (by omega)
  have h3 : (yI p).toNatClampNeg = p := yI_clamp (by omega)
  show G d 57 0 [some (.ref o), some (.int (yI p))] [] (yemb t) Q ↔ _
  unfold ystut
  by_cases hk : D.kd p = 3
  · by_cases h0 : 0 < D.pd p
    · have h5 : ¬ D.pd p ≤ 0 := Int32.not_le.mpr h0
      have h6 : ¬ D.pd p = 0 := by
        intro h
        rw [h] at h0
        exact absurd h0 (by decide)
      simp only [s_57_0, s_57_1, s_57_2, s_57_3, s_57_4, s_57_5, s_57_6, s_57_7, s_57_8, s_57_9, s_57_10, s_57_11, s_57_12, s_57_13, s_57_14, s_57_15, s_57_16, s_57_17, s_57_18, s_57_19, s_57_20, s_57_21, s_57_22, s_57_23, s_57_24, s_57_25, s_57_26, W.oo, yAs_3 W.oo, yns_3 W.oo, yAs_4 W.oo, yns_4 W.oo, yAs_5 W.oo, yns_5 W.oo, h2, h3, true_and, W.kd p hp, W.pd p hp, W.fr p hp, hk, h5, h6, ne_eq, not_true_eq_false, not_false_eq_true, if_false, ybo_0, ybo_1]
      by_cases h7 : (D.fr p + 1) - (D.fr p + 1) / D.pd p * D.pd p = 0
      · simp [h0, h7, yb]
      · simp [h0, h7, yb]
    · have h5 : D.pd p ≤ 0 := Int32.not_lt.mp h0
      simp only [s_57_0, s_57_1, s_57_2, s_57_3, s_57_4, s_57_5, s_57_6, s_57_7, s_57_8, s_57_9, s_57_10, s_57_11, s_57_12, s_57_13, s_57_14, s_57_15, s_57_16, s_57_17, s_57_18, s_57_19, s_57_20, s_57_21, s_57_22, s_57_23, s_57_24, s_57_25, s_57_26, W.oo, yAs_3 W.oo, yns_3 W.oo, yAs_4 W.oo, yns_4 W.oo, h2, h3, true_and, W.kd p hp, W.pd p hp, hk, h5, ne_eq, not_true_eq_false, if_false, if_true, ybo_0]
      simp [h0, yb]
  · simp only [s_57_0, s_57_1, s_57_2, s_57_3, s_57_4, s_57_5, s_57_6, s_57_7, s_57_8, s_57_9, s_57_10, s_57_11, s_57_12, s_57_13, s_57_14, s_57_15, s_57_16, s_57_17, s_57_18, s_57_19, s_57_20, s_57_21, s_57_22, s_57_23, s_57_24, s_57_25, s_57_26, W.oo, yAs_3 W.oo, yns_3 W.oo, h2, h3, true_and, W.kd p hp, hk, ne_eq, not_false_eq_true, if_true, ybo_0]
    simp [yb]
theorem m_56 {t : yT} (W : yW t o D) {i : Int32} {s : Int64} {p : Nat} (hi : i + 1 = yI p) (hp : p ≤ D.n) : Cl (d + 1) 56 [.ref o, .int i, .long s] (yemb t) Q ↔ Q (.inl (some (.int (yI (ynext D s (D.n - p) p))))) (yemb t) := by
  show G (d + 1) 56 0 [some (.ref o), some (.int i), some (.long s), none, none] [] (yemb t) Q ↔ _
  simp only [s_56_0, s_56_1, s_56_2, s_56_3, ykl_n, hi]
  exact l_56 W (D.n - p) p (by omega)
def ybeg (D : yD) (s : Int64) (p first : Nat) : Nat := if D.kd p = 1 then D.n else if ystut D p = true then first else ynext D s (D.n - (first + 1)) (first + 1)
def yrowF (D : yD) (s : Int64) (o : Nat) : Nat → Nat → Nat → yT → yT
  | 0, _, _, t => t
  | n + 1, p, first, t => if first < D.n then (if yin s (yI p) = true then yrowF D s o n (p + 1) first (t.s1 (o + 10) p (-1)) else yrowF D s o n (p + 1) (ybeg D s p first) ((t.s1 (o + 10) p (-1)).s1 (o + 10) p (yI first))) else yrowF D s o n (p + 1) first (t.s1 (o + 10) p (-1))
theorem ybeg_le {D : yD} {s : Int64} {p first : Nat} (h : first < D.n) : ybeg D s p first ≤ D.n := by
  unfold ybeg
  have := ynext_le (D := D) (s := s) (D.n - (first + 1)) (first + 1)
  split
  · omega
  · split <;> omega
theorem l_55 {s : Int64} : ∀ n p first (t : yT), yW t o D → p + n = D.n → first ≤ D.n → (G (d + 2) 55 7 [some (.ref o), some (.long s), none, some (.int (yI first)), some (.int (yI p))] [] (yemb t) Q ↔ Q (.inl none) (yemb (yrowF D s o n p first t))) := by
  intro n
  induction n with
  | zero =>
    intro p first t W hp hf
    have hn40 := W.ok.n40
    have h1 : yI D.n ≤ yI p := (yI_le (by omega) (by omega)).mpr (by omega)
    rw [s_55_7]
    simp only [s_55_0, s_55_1, s_55_2, s_55_3, s_55_4, s_55_5, s_55_6, s_55_8, s_55_9, s_55_10, s_55_11, s_55_12, s_55_13, s_55_14, s_55_15, s_55_16, s_55_17, s_55_18, s_55_19, s_55_20, s_55_21, s_55_22, s_55_23, s_55_24, s_55_25, s_55_26, s_55_27, s_55_28, s_55_29, s_55_30, s_55_31, s_55_32, s_55_33, s_55_34, s_55_35, s_55_36, s_55_37, s_55_38, s_55_39, s_55_40, s_55_41, s_55_42, s_55_43, s_55_44, s_55_45, s_55_46, s_55_47, s_55_48, s_55_49, s_55_50, W.oo, W.n, h1, if_true, yrowF]
  | succ n ih =>
    intro p first t W hp hf
    have hn40 := W.ok.n40
    have h1 : ¬ yI D.n ≤ yI p := fun h => absurd ((yI_le (by omega) (by omega)).mp h) (by omega)
    have h2 : yix (yI p) 40 := yix_I (by omega) (by omega)
    have h3 : (yI p).toNatClampNeg = p := yI_clamp (by omega)
    have h4 : yI p + 1 = yI (p + 1) := yI_add
    have W1 := yW_row (j := p) (v := -1) W
    simp only [yrowF]
    rw [s_55_7]
    by_cases hfn : first < D.n
    · have h5 : ¬ yI D.n ≤ yI first := fun h => absurd ((yI_le (by omega) (by omega)).mp h) (by omega)
      rw [if_pos hfn]
      cases hb : yin s (yI p)
      · have W2 := yW_row (j := p) (v := yI first) W1
        have hih := ih (p + 1) (ybeg D s p first) ((t.s1 (o + 10) p (-1)).s1 (o + 10) p (yI first)) W2 (by omega) (ybeg_le hfn)
        unfold ybeg at hih ⊢
        by_cases hk : D.kd p = 1
        · simp only [hk, if_true] at hih ⊢
          simp only [s_55_0, s_55_1, s_55_2, s_55_3, s_55_4, s_55_5, s_55_6, s_55_8, s_55_9, s_55_10, s_55_11, s_55_12, s_55_13, s_55_14, s_55_15, s_55_16, s_55_17, s_55_18, s_55_19, s_55_20, s_55_21, s_55_22, s_55_23, s_55_24, s_55_25, s_55_26, s_55_27, s_55_28, s_55_29, s_55_30, s_55_31, s_55_32, s_55_33, s_55_34, s_55_35, s_55_36, s_55_37, s_55_38, s_55_39, s_55_40, s_55_41, s_55_42, s_55_43, s_55_44, s_55_45, s_55_46, s_55_47, s_55_48, s_55_49, s_55_50, W.oo, W.n, h1, if_false, yAs_10 W.oo, yns_10 W.oo, yAs_3 W.oo, yns_3 W.oo, h2, h3, true_and, W1.n, W2.n, h5, m_64, hb, Gk_v, xcat_nil, Nat.zero_le, Nat.reduceAdd, ifbn, Bool.false_eq_true, W2.kd p (show p < 40 by omega), hk, ne_eq, not_true_eq_false, ykl_n, ykl_i, h4, hih]
        · simp only [hk, if_false] at hih ⊢
          cases hst : ystut D p
          · simp only [hst, Bool.false_eq_true, if_false] at hih ⊢
            simp only [s_55_0, s_55_1, s_55_2, s_55_3, s_55_4, s_55_5, s_55_6, s_55_8, s_55_9, s_55_10, s_55_11, s_55_12, s_55_13, s_55_14, s_55_15, s_55_16, s_55_17, s_55_18, s_55_19, s_55_20, s_55_21, s_55_22, s_55_23, s_55_24, s_55_25, s_55_26, s_55_27, s_55_28, s_55_29, s_55_30, s_55_31, s_55_32, s_55_33, s_55_34, s_55_35, s_55_36, s_55_37, s_55_38, s_55_39, s_55_40, s_55_41, s_55_42, s_55_43, s_55_44, s_55_45, s_55_46, s_55_47, s_55_48, s_55_49, s_55_50, W.oo, W.n, h1, if_false, yAs_10 W.oo, yns_10 W.oo, yAs_3 W.oo, yns_3 W.oo, h2, h3, true_and, W1.n, W2.n, h5, m_64, hb, m_57 W2 (show p < 40 by omega), hst, m_56 W2 (show yI first + 1 = yI (first + 1) from yI_add) (show first + 1 ≤ D.n by omega), Gk_v, xcat_nil, Nat.zero_le, Nat.reduceAdd, ifbn, Bool.false_eq_true, W2.kd p (show p < 40 by omega), hk, ne_eq, not_false_eq_true, if_true, ykl_n, ykl_i, h4, hih]
          · simp only [hst, if_true] at hih ⊢
            simp only [s_55_0, s_55_1, s_55_2, s_55_3, s_55_4, s_55_5, s_55_6, s_55_8, s_55_9, s_55_10, s_55_11, s_55_12, s_55_13, s_55_14, s_55_15, s_55_16, s_55_17, s_55_18, s_55_19, s_55_20, s_55_21, s_55_22, s_55_23, s_55_24, s_55_25, s_55_26, s_55_27, s_55_28, s_55_29, s_55_30, s_55_31, s_55_32, s_55_33, s_55_34, s_55_35, s_55_36, s_55_37, s_55_38, s_55_39, s_55_40, s_55_41, s_55_42, s_55_43, s_55_44, s_55_45, s_55_46, s_55_47, s_55_48, s_55_49, s_55_50, W.oo, W.n, h1, if_false, yAs_10 W.oo, yns_10 W.oo, yAs_3 W.oo, yns_3 W.oo, h2, h3, true_and, W1.n, W2.n, h5, m_64, hb, m_57 W2 (show p < 40 by omega), hst, Gk_v, xcat_nil, Nat.zero_le, Nat.reduceAdd, ifbn, Bool.false_eq_true, W2.kd p (show p < 40 by omega), hk, ne_eq, not_false_eq_true, if_true, ykl_n, ykl_i, h4, hih]
      · have hih := ih (p + 1) first (t.s1 (o + 10) p (-1)) W1 (by omega) hf
        simp only [s_55_0, s_55_1, s_55_2, s_55_3, s_55_4, s_55_5, s_55_6, s_55_8, s_55_9, s_55_10, s_55_11, s_55_12, s_55_13, s_55_14, s_55_15, s_55_16, s_55_17, s_55_18, s_55_19, s_55_20, s_55_21, s_55_22, s_55_23, s_55_24, s_55_25, s_55_26, s_55_27, s_55_28, s_55_29, s_55_30, s_55_31, s_55_32, s_55_33, s_55_34, s_55_35, s_55_36, s_55_37, s_55_38, s_55_39, s_55_40, s_55_41, s_55_42, s_55_43, s_55_44, s_55_45, s_55_46, s_55_47, s_55_48, s_55_49, s_55_50, W.oo, W.n, h1, if_false, yAs_10 W.oo, yns_10 W.oo, h2, h3, true_and, W1.n, h5, m_64, hb, Gk_v, xcat_nil, Nat.zero_le, Nat.reduceAdd, ifbn, if_true, ykl_i, h4, hih]
    · have h5 : yI D.n ≤ yI first := (yI_le (by omega) (by omega)).mpr (by omega)
      rw [if_neg hfn]
      have hih := ih (p + 1) first (t.s1 (o + 10) p (-1)) W1 (by omega) hf
      simp only [s_55_0, s_55_1, s_55_2, s_55_3, s_55_4, s_55_5, s_55_6, s_55_8, s_55_9, s_55_10, s_55_11, s_55_12, s_55_13, s_55_14, s_55_15, s_55_16, s_55_17, s_55_18, s_55_19, s_55_20, s_55_21, s_55_22, s_55_23, s_55_24, s_55_25, s_55_26, s_55_27, s_55_28, s_55_29, s_55_30, s_55_31, s_55_32, s_55_33, s_55_34, s_55_35, s_55_36, s_55_37, s_55_38, s_55_39, s_55_40, s_55_41, s_55_42, s_55_43, s_55_44, s_55_45, s_55_46, s_55_47, s_55_48, s_55_49, s_55_50, W.oo, W.n, h1, if_false, yAs_10 W.oo, yns_10 W.oo, h2, h3, true_and, W1.n, h5, if_true, ykl_i, h4, hih]
end

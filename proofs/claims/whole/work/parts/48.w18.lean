/-! ===== strips: takeRow ===== -/
def yt54 (o : Nat) (r : Nat → Int32) : Nat → Nat → yD → yT → yD × yT
  | 0, _, D, t => (D, t)
  | n + 1, p, D, t => if r p < 0 then yt54 o r n (p + 1) D t else if D.kd p = 1 then yt54 o r n (p + 1) { D with fr := upd D.fr p (D.fr p + 1) } (t.s1 (o + 5) p (D.fr p + 1)) else yt54 o r n (p + 1) { D with fr := upd D.fr p (D.fr p + 1), tk := upd D.tk p (D.du (r p).toNatClampNeg), og := upd D.og p (r p) } (((t.s1 (o + 5) p (D.fr p + 1)).s1 (o + 6) p (D.du (r p).toNatClampNeg)).s1 (o + 7) p (r p))
section
variable {d o : Nat} {Q : xR → xS → Prop}
theorem l_54 {r : Nat → Int32} {m : Nat} (hr : ∀ p, p < m → r p = -1 ∨ ∃ q, q < 40 ∧ r p = yI q) : ∀ n p (t : yT) (D : yD) l2, yW t o D → t.A (o + 10) = r → D.n = m → p + n = m → (G d 54 6 [some (.ref o), some (.int (yI p)), l2] [] (yemb t) Q ↔ Q (.inl none) (yemb (yt54 o r n p D t).2)) ∧ yW (yt54 o r n p D t).2 o (yt54 o r n p D t).1 := by
  intro n
  induction n with
  | zero =>
    intro p t D l2 W hrow hm hp
    have hn40 := W.ok.n40
    have h1 : yI m ≤ yI p := (yI_le (by omega) (by omega)).mpr (by omega)
    refine ⟨?_, W⟩
    rw [s_54_6]
    simp only [s_54_0, s_54_1, s_54_2, s_54_3, s_54_4, s_54_5, s_54_7, s_54_8, s_54_9, s_54_10, s_54_11, s_54_12, s_54_13, s_54_14, s_54_15, s_54_16, s_54_17, s_54_18, s_54_19, s_54_20, s_54_21, s_54_22, s_54_23, s_54_24, s_54_25, s_54_26, s_54_27, s_54_28, s_54_29, s_54_30, s_54_31, s_54_32, s_54_33, s_54_34, s_54_35, s_54_36, s_54_37, s_54_38, s_54_39, s_54_40, s_54_41, s_54_42, s_54_43, s_54_44, s_54_45, s_54_46, W.oo, W.n, hm, h1, if_true, yt54]
  | succ n ih =>
    intro p t D l2 W hrow hm hp
    have hn40 := W.ok.n40
    have h1 : ¬ yI m ≤ yI p := fun h => absurd ((yI_le (by omega) (by omega)).mp h) (by omega)
    have h2 : yix (yI p) 40 := yix_I (by omega) (by omega)
    have h3 : (yI p).toNatClampNeg = p := yI_clamp (by omega)
    have h4 : yI p + 1 = yI (p + 1) := yI_add
    simp only [yt54]
    rw [s_54_6]
    rcases hr p (by omega) with hq | ⟨q, hq, hrq⟩
    · have hneg : r p < 0 := by
        rw [hq]
        decide
      rw [if_pos hneg]
      refine ⟨?_, (ih (p + 1) t D none W hrow hm (by omega)).2⟩
      simp only [s_54_0, s_54_1, s_54_2, s_54_3, s_54_4, s_54_5, s_54_7, s_54_8, s_54_9, s_54_10, s_54_11, s_54_12, s_54_13, s_54_14, s_54_15, s_54_16, s_54_17, s_54_18, s_54_19, s_54_20, s_54_21, s_54_22, s_54_23, s_54_24, s_54_25, s_54_26, s_54_27, s_54_28, s_54_29, s_54_30, s_54_31, s_54_32, s_54_33, s_54_34, s_54_35, s_54_36, s_54_37, s_54_38, s_54_39, s_54_40, s_54_41, s_54_42, s_54_43, s_54_44, s_54_45, s_54_46, W.oo, W.n, hm, h1, if_false, yAs_10 W.oo, yns_10 W.oo, h2, h3, true_and, hrow, hneg, if_true, ykl_i, ykl_r, h4, (ih (p + 1) t D _ W hrow hm (show p + 1 + n = m by omega)).1]
    · have hneg : ¬ r p < 0 := by
        rw [hrq]
        exact yI_nneg (by omega)
      rw [if_neg hneg]
      have W1 := yW_fr (p := p) (v := D.fr p + 1) W
      have hrow1 : (t.s1 (o + 5) p (D.fr p + 1)).A (o + 10) = r := by
        rw [ys1_ne (by omega)]
        exact hrow
      by_cases hk : D.kd p = 1
      · rw [if_pos hk]
        refine ⟨?_, (ih (p + 1) _ _ none W1 hrow1 hm (by omega)).2⟩
        simp only [s_54_0, s_54_1, s_54_2, s_54_3, s_54_4, s_54_5, s_54_7, s_54_8, s_54_9, s_54_10, s_54_11, s_54_12, s_54_13, s_54_14, s_54_15, s_54_16, s_54_17, s_54_18, s_54_19, s_54_20, s_54_21, s_54_22, s_54_23, s_54_24, s_54_25, s_54_26, s_54_27, s_54_28, s_54_29, s_54_30, s_54_31, s_54_32, s_54_33, s_54_34, s_54_35, s_54_36, s_54_37, s_54_38, s_54_39, s_54_40, s_54_41, s_54_42, s_54_43, s_54_44, s_54_45, s_54_46, W.oo, W.n, hm, h1, if_false, yAs_10 W.oo, yns_10 W.oo, yAs_5 W.oo, yns_5 W.oo, yAs_3 W.oo, yns_3 W.oo, h2, h3, true_and, hrow, hneg, W.fr p (show p < 40 by omega), W1.kd p (show p < 40 by omega), hk, if_true, ykl_i, ykl_r, h4, (ih (p + 1) _ _ _ W1 hrow1 hm (show p + 1 + n = m by omega)).1]
      · rw [if_neg hk]
        have W2 := yW_tk (p := p) (v := D.du (r p).toNatClampNeg) W1
        have W3 := yW_og (p := p) W2 hq
        have hrow3 : (((t.s1 (o + 5) p (D.fr p + 1)).s1 (o + 6) p (D.du (r p).toNatClampNeg)).s1 (o + 7) p (r p)).A (o + 10) = r := by
          rw [ys1_ne (by omega), ys1_ne (by omega)]
          exact hrow1
        rw [← hrq] at W3
        have h5 : yix (r p) 40 := by
          rw [hrq]
          exact yix_I (by omega) (by omega)
        have h6 : (r p).toNatClampNeg < 40 := by
          rw [hrq, yI_clamp (by omega)]
          exact hq
        refine ⟨?_, (ih (p + 1) _ _ none W3 hrow3 hm (by omega)).2⟩
        simp only [s_54_0, s_54_1, s_54_2, s_54_3, s_54_4, s_54_5, s_54_7, s_54_8, s_54_9, s_54_10, s_54_11, s_54_12, s_54_13, s_54_14, s_54_15, s_54_16, s_54_17, s_54_18, s_54_19, s_54_20, s_54_21, s_54_22, s_54_23, s_54_24, s_54_25, s_54_26, s_54_27, s_54_28, s_54_29, s_54_30, s_54_31, s_54_32, s_54_33, s_54_34, s_54_35, s_54_36, s_54_37, s_54_38, s_54_39, s_54_40, s_54_41, s_54_42, s_54_43, s_54_44, s_54_45, s_54_46, W.oo, W.n, hm, h1, if_false, yAs_10 W.oo, yns_10 W.oo, yAs_5 W.oo, yns_5 W.oo, yAs_3 W.oo, yns_3 W.oo, yAs_6 W.oo, yns_6 W.oo, yAs_7 W.oo, yns_7 W.oo, yAs_2 W.oo, yns_2 W.oo, h2, h3, h5, true_and, hrow, hneg, W.fr p (show p < 40 by omega), W1.kd p (show p < 40 by omega), W1.du _ h6, hk, ykl_i, ykl_r, h4, (ih (p + 1) _ _ _ W3 hrow3 hm (show p + 1 + n = m by omega)).1]
end

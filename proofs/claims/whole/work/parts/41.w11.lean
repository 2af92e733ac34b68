/-! ===== strips: the row that goes along ===== -/
/-- the next pixel behind, from p on, that isn't in the set -/
def ynext (D : yD) (s : Int64) : Nat → Nat → Nat
  | 0, p => p
  | n + 1, p => if yin s (yI p) then ynext D s n (p + 1) else p
theorem ynext_le {D : yD} {s : Int64} : ∀ n p, ynext D s n p ≤ p + n := by
  intro n
  induction n with
  | zero => intro p; exact Nat.le_refl _
  | succ n ih =>
    intro p
    simp only [ynext]
    split
    · have := ih (p + 1)
      omega
    · omega
def ydead (D : yD) : Nat → Nat → Bool
  | 0, _ => false
  | n + 1, p => if D.kd p == 1 && !D.bp p then true else ydead D n (p + 1)
def ywhy (D : yD) (p : Nat) : Int32 :=
  if D.bp p = true then 1 else if D.kd p = 1 then 2 else if D.kd p = 2 then 3 else if D.og p < 0 then 4
  else if D.tk p = D.du p then (if D.fl (yfeed D p) < yload D (yfeed D p) then 8 else 0)
  else if ydead D p 0 = true then 5 else if D.og p = yI p then 7 else 6
section
variable {d o : Nat} {t : yT} {D : yD} {Q : xR → xS → Prop}
theorem l_56 (W : yW t o D) {l1 : Option Value} {s : Int64} : ∀ n p, p + n = D.n → (G (d + 1) 56 4 [some (.ref o), l1, some (.long s), none, some (.int (yI p))] [] (yemb t) Q ↔ Q (.inl (some (.int (yI (ynext D s n p))))) (yemb t)) := by
  have hn40 := W.ok.n40
  intro n
  induction n with
  | zero =>
    intro p hp
    have h1 : yI D.n ≤ yI p := (yI_le (by omega) (by omega)).mpr (by omega)
    rw [s_56_4]
    simp only [s_56_0, s_56_1, s_56_2, s_56_3, s_56_5, s_56_6, s_56_7, s_56_8, s_56_9, s_56_10, s_56_11, s_56_12, s_56_13, s_56_14, s_56_15, W.oo, W.n, h1, if_true, ynext]
  | succ n ih =>
    intro p hp
    have h1 : ¬ yI D.n ≤ yI p := fun h => absurd ((yI_le (by omega) (by omega)).mp h) (by omega)
    have h4 : yI p + 1 = yI (p + 1) := yI_add
    rw [s_56_4]
    simp only [s_56_0, s_56_1, s_56_2, s_56_3, s_56_5, s_56_6, s_56_7, s_56_8, s_56_9, s_56_10, s_56_11, s_56_12, s_56_13, s_56_14, s_56_15, W.oo, W.n, h1, if_false, m_64, Gk_v, xcat_nil, Nat.zero_le, Nat.reduceAdd, true_and, ifb, ykl_n, h4, ih (p + 1) (show p + 1 + n = D.n by omega)]
    simp only [ynext]
    cases hb : yin s (yI p) <;> simp
theorem l_63 (W : yW t o D) {q : Nat} (hq : q < 40) : ∀ n p, p + n = q → (G (d + 2) 63 2 [some (.ref o), some (.int (yI q)), some (.int (yI p))] [] (yemb t) Q ↔ Q (.inl (some (.int (yb (ydead D n p))))) (yemb t)) := by
  intro n
  induction n with
  | zero =>
    intro p hp
    have h1 : yI q ≤ yI p := (yI_le (by omega) (by omega)).mpr (by omega)
    rw [s_63_2]
    simp only [s_63_0, s_63_1, s_63_3, s_63_4, s_63_5, s_63_6, s_63_7, s_63_8, s_63_9, s_63_10, s_63_11, s_63_12, s_63_13, s_63_14, s_63_15, s_63_16, s_63_17, s_63_18, s_63_19, s_63_20, h1, if_true, ybo_0, true_and]
    rfl
  | succ n ih =>
    intro p hp
    have h1 : ¬ yI q ≤ yI p := fun h => absurd ((yI_le (by omega) (by omega)).mp h) (by omega)
    have h2 : yix (yI p) 40 := yix_I (by omega) (by omega)
    have h3 : (yI p).toNatClampNeg = p := yI_clamp (by omega)
    have h4 : yI p + 1 = yI (p + 1) := yI_add
    rw [s_63_2]
    simp only [s_63_0, s_63_1, s_63_3, s_63_4, s_63_5, s_63_6, s_63_7, s_63_8, s_63_9, s_63_10, s_63_11, s_63_12, s_63_13, s_63_14, s_63_15, s_63_16, s_63_17, s_63_18, s_63_19, s_63_20, W.oo, h1, if_false, yAs_3 W.oo, yns_3 W.oo, h2, h3, W.kd p (show p < 40 by omega), m_34 W.oo, W.bp p (show p < 40 by omega), Gk_v, xcat_nil, Nat.zero_le, Nat.reduceAdd, true_and, ifbn, ykl_i, h4, ih (p + 1) (show p + 1 + n = q by omega), ybo_1]
    simp only [ydead]
    by_cases hk : D.kd p = 1
    · cases hb : D.bp p <;> simp [hk, yb]
    · simp [hk]
theorem m_63 (W : yW t o D) {q : Nat} (hq : q < 40) : Cl (d + 2) 63 [.ref o, .int (yI q)] (yemb t) Q ↔ Q (.inl (some (.int (yb (ydead D q 0))))) (yemb t) := by
  show G (d + 2) 63 0 [some (.ref o), some (.int (yI q)), none] [] (yemb t) Q ↔ _
  simp only [s_63_0, s_63_1, ykl_i]
  exact l_63 W hq q 0 (Nat.zero_add _)
theorem m_62 (W : yW t o D) {p : Nat} (hp : p < 40) : Cl (d + 4) 62 [.ref o, .int (yI p)] (yemb t) Q ↔ Q (.inl (some (.int (ywhy D p)))) (yemb t) := by
  have hf6 := W.ok.f6
  have hfe := yfeed_lt W.ok p
  have h2 : yix (yI p) 40 := yix_I (by omega) (by omega)
  have h3 : (yI p).toNatClampNeg = p := yI_clamp (by omega)
  have h5 : yix (yI (yfeed D p)) 6 := yix_I (by omega) (by omega)
  have h6 : (yI (yfeed D p)).toNatClampNeg = yfeed D p := yI_clamp (by omega)
  have hlt : ∀ {x y : Int32} {A B : Prop}, (if x ≤ y then A else B) ↔ (if y < x then B else A) := by
    intro x y A B
    by_cases h : x ≤ y
    · rw [if_pos h, if_neg (Int32.not_lt.mpr h)]
    · rw [if_neg h, if_pos (Int32.not_le.mp h)]
  have hge : ∀ {x : Int32} {A B : Prop}, (if 0 ≤ x then A else B) ↔ (if x < 0 then B else A) := by
    intro x A B
    by_cases h : 0 ≤ x
    · rw [if_pos h, if_neg (Int32.not_lt.mpr h)]
    · rw [if_neg h, if_pos (Int32.not_le.mp h)]
  show G (d + 4) 62 0 [some (.ref o), some (.int (yI p)), none] [] (yemb t) Q ↔ _
  simp only [s_62_0, s_62_1, s_62_2, s_62_3, s_62_4, s_62_5, s_62_6, s_62_7, s_62_8, s_62_9, s_62_10, s_62_11, s_62_12, s_62_13, s_62_14, s_62_15, s_62_16, s_62_17, s_62_18, s_62_19, s_62_20, s_62_21, s_62_22, s_62_23, s_62_24, s_62_25, s_62_26, s_62_27, s_62_28, s_62_29, s_62_30, s_62_31, s_62_32, s_62_33, s_62_34, s_62_35, s_62_36, s_62_37, s_62_38, s_62_39, s_62_40, s_62_41, s_62_42, s_62_43, s_62_44, s_62_45, s_62_46, s_62_47, s_62_48, s_62_49, s_62_50, s_62_51, s_62_52, s_62_53, s_62_54, s_62_55, s_62_56, s_62_57, s_62_58, s_62_59, s_62_60, s_62_61, s_62_62, s_62_63, s_62_64, s_62_65, s_62_66, s_62_67, s_62_68, s_62_69, W.oo, m_34 W.oo, W.bp p hp, m_63 W hp, m_42' W hp, m_44 W hfe, Gk_v, xcat_nil, xcat_i, xcat_r, Nat.reduceAdd, Nat.reduceLeDiff, Nat.zero_le, true_and, ifb, ykl_i, yAs_3 W.oo, yns_3 W.oo, yAs_6 W.oo, yns_6 W.oo, yAs_2 W.oo, yns_2 W.oo, yAs_7 W.oo, yns_7 W.oo, yAs_9 W.oo, yns_9 W.oo, h2, h3, h5, h6, W.kd p hp, W.tk p hp, W.du p hp, W.og p hp, W.fl (yfeed D p) (by omega), hlt, hge]
  unfold ywhy
  repeat' split
  all_goals simp_all
end

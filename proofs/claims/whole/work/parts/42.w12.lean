/-! ===== the model: refusals, reasons ===== -/
theorem m_125 {d : Nat} {v lo hi : Int32} {σ : xS} {Q : xR → xS → Prop} : Cl d 125 [.int v, .int lo, .int hi] σ Q ↔ Q (.inl (some (.int (yb (decide (lo ≤ v ∧ v ≤ hi)))))) σ := by
  show G d 125 0 [some (.int v), some (.int lo), some (.int hi)] [] σ Q ↔ _
  simp only [s_125_0, s_125_1, s_125_2, s_125_3, s_125_4, s_125_5, s_125_6, s_125_7, s_125_8, s_125_9, ybo_0, ybo_1, true_and]
  by_cases h1 : v < lo
  · have h2 : ¬ lo ≤ v := Int32.not_le.mpr h1
    simp [h1, h2, yb]
  · have h2 : lo ≤ v := Int32.not_lt.mp h1
    by_cases h3 : hi < v
    · have h4 : ¬ v ≤ hi := Int32.not_le.mpr h3
      simp [h1, h2, h3, h4, yb]
    · have h4 : v ≤ hi := Int32.not_lt.mp h3
      simp [h1, h2, h3, h4, yb]
theorem ys1_same {t : yT} {a j : Nat} {v : Int32} : (t.s1 a j v).A a j = v := by
  simp [yT.s1, yT.sA, upd]
section
variable {d : Nat} {t : yT} {D : yD} {Q : xR → xS → Prop}
theorem m_124 {b : Bool} {e : Int32} (he : ¬ e = 0) (h0 : t.A 160 0 = 0) : Cl d 124 [.ref 160, .int (yb b), .int e] (yemb t) Q ↔ Q (.inl (some (.int (yb b)))) (yemb (if b then t.s1 160 0 e else t)) := by
  show G d 124 0 [some (.ref 160), some (.int (yb b)), some (.int e)] [] (yemb t) Q ↔ _
  cases b
  · simp only [s_124_0, s_124_1, s_124_2, s_124_3, s_124_4, s_124_5, s_124_6, s_124_7, s_124_8, s_124_9, s_124_10, s_124_11, s_124_12, s_124_13, s_124_14, yO_160, yb, Bool.false_eq_true, if_false, if_true, h0, ne_eq, not_true_eq_false, ybo_0, true_and]
  · have h1 : ¬ (1 : Int32) = 0 := by decide
    simp only [s_124_0, s_124_1, s_124_2, s_124_3, s_124_4, s_124_5, s_124_6, s_124_7, s_124_8, s_124_9, s_124_10, s_124_11, s_124_12, s_124_13, s_124_14, yO_160, yb, if_true, if_false, h0, h1, he, ne_eq, not_true_eq_false, not_false_eq_true, ybo_1, true_and, ys1_same]
theorem m_124f {e : Int32} (he : ¬ e = 0) (h0 : t.A 160 0 = 0) : Cl d 124 [.ref 160, .int 0, .int e] (yemb t) Q ↔ Q (.inl (some (.int 0))) (yemb t) := m_124 (b := false) he h0
theorem m_124t {e : Int32} (he : ¬ e = 0) (h0 : t.A 160 0 = 0) : Cl d 124 [.ref 160, .int 1, .int e] (yemb t) Q ↔ Q (.inl (some (.int 1))) (yemb (t.s1 160 0 e)) := m_124 (b := true) he h0
theorem m_185 (M : yM (t.A 162) D) {p : Int32} (h0 : t.A 160 0 = 0) : Cl (d + 1) 185 [.ref 160, .int p] (yemb t) Q ↔ Q (.inl (some (.int (yb (!decide (0 ≤ p ∧ p < yI D.n)))))) (yemb (if !decide (0 ≤ p ∧ p < yI D.n) then t.s1 160 0 1 else t)) := by
  have hn1 := M.ok.n1
  have hn40 := M.ok.n40
  have e : (p ≤ yI (D.n - 1)) = (p < yI D.n) := by
    apply propext
    rw [Int32.le_iff_toInt_le, Int32.lt_iff_toInt_lt, yI_toInt (by omega), yI_toInt (by omega)]
    omega
  have h1 : ¬ (1 : Int32) = 0 := by decide
  show G (d + 1) 185 0 [some (.ref 160), some (.int p)] [] (yemb t) Q ↔ _
  simp only [s_185_0, s_185_1, s_185_2, s_185_3, s_185_4, s_185_5, s_185_6, s_185_7, s_185_8, s_185_9, s_185_10, s_185_11, s_185_12, s_185_13, s_185_14, s_185_15, s_185_16, yO_160, yA_162, yn_162, yix0, ycl0, M.n, yI_sub1 hn1, m_125, m_124f h1 h0, m_124t h1 h0, Gk_v, xcat_nil, xcat_i, xcat_r, Nat.reduceAdd, Nat.reduceLeDiff, Nat.zero_le, true_and, ifbn, ybo_0, ybo_1]
  by_cases hp : 0 ≤ p ∧ p < yI D.n
  · simp [e, hp, yb]
  · simp [e, hp, yb]
theorem l_195 (M : yM (t.A 162) D) {q : Nat} (hq : q < 40) : ∀ n p, p + n = q → (G (d + 2) 195 2 [some (.ref 160), some (.int (yI q)), some (.int (yI p))] [] (yemb t) Q ↔ Q (.inl (some (.int (yb (ydead D n p))))) (yemb t)) := by
  intro n
  induction n with
  | zero =>
    intro p hp
    have h1 : yI q ≤ yI p := (yI_le (by omega) (by omega)).mpr (by omega)
    rw [s_195_2]
    simp only [s_195_0, s_195_1, s_195_3, s_195_4, s_195_5, s_195_6, s_195_7, s_195_8, s_195_9, s_195_10, s_195_11, s_195_12, s_195_13, s_195_14, s_195_15, s_195_16, s_195_17, s_195_18, s_195_19, s_195_20, s_195_21, h1, if_true, ybo_0, true_and]
    rfl
  | succ n ih =>
    intro p hp
    have h1 : ¬ yI q ≤ yI p := fun h => absurd ((yI_le (by omega) (by omega)).mp h) (by omega)
    have h4 : yI p + 1 = yI (p + 1) := yI_add
    rw [s_195_2]
    simp only [s_195_0, s_195_1, s_195_3, s_195_4, s_195_5, s_195_6, s_195_7, s_195_8, s_195_9, s_195_10, s_195_11, s_195_12, s_195_13, s_195_14, s_195_15, s_195_16, s_195_17, s_195_18, s_195_19, s_195_20, s_195_21, yO_160, h1, if_false, mo_kd M (show p < 40 by omega), mo_bp M (show p < 40 by omega), Gk_v, xcat_nil, xcat_i, xcat_r, Nat.zero_le, Nat.reduceAdd, Nat.reduceLeDiff, true_and, ifbn, ykl_i, h4, ih (p + 1) (show p + 1 + n = q by omega), ybo_1]
    simp only [ydead]
    by_cases hk : D.kd p = 1
    · cases hb : D.bp p <;> simp [hk, yb]
    · simp [hk]
theorem m_195 (M : yM (t.A 162) D) {q : Nat} (hq : q < 40) : Cl (d + 2) 195 [.ref 160, .int (yI q)] (yemb t) Q ↔ Q (.inl (some (.int (yb (ydead D q 0))))) (yemb t) := by
  show G (d + 2) 195 0 [some (.ref 160), some (.int (yI q)), none] [] (yemb t) Q ↔ _
  simp only [s_195_0, s_195_1, ykl_i]
  exact l_195 M hq q 0 (Nat.zero_add _)
end

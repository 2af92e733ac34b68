/-! ===== the model's row ===== -/
structure yM (S : Nat → Int32) (D : yD) : Prop where
  ok : yDok D
  n : S 0 = yI D.n
  un : S 1 = D.un
  lv : S 2 = D.lv
  f : S 3 = yI D.f
  sh : S 4 = D.sh
  ac : S 5 = D.ac
  kd : ∀ p, p < 40 → S (8 + 8 * p + 0) = D.kd p
  bp : ∀ p, p < 40 → S (8 + 8 * p + 1) = yb (D.bp p)
  pd : ∀ p, p < 40 → S (8 + 8 * p + 2) = D.pd p
  fr : ∀ p, p < 40 → S (8 + 8 * p + 3) = D.fr p
  tk : ∀ p, p < 40 → S (8 + 8 * p + 4) = D.tk p
  du : ∀ p, p < 40 → S (8 + 8 * p + 5) = D.du p
  og : ∀ p, p < 40 → S (8 + 8 * p + 6) = D.og p
  fm : ∀ p, p < 40 → S (8 + 8 * p + 7) = D.fm p
  fp : ∀ g, g < 6 → S (328 + 2 * g) = yI (D.fp g)
  fl : ∀ g, g < 6 → S (328 + 2 * g + 1) = D.fl g
theorem m_160 {d p : Nat} {σ : xS} {Q : xR → xS → Prop} : Cl d 160 [.int (yI p)] σ Q ↔ Q (.inl (some (.int (yI (8 + 8 * p))))) σ := by
  show G d 160 0 [some (.int (yI p))] [] σ Q ↔ _
  simp only [s_160_0, s_160_1, s_160_2, s_160_3, s_160_4, s_160_5]
  rw [show (8 : Int32) = yI 8 from rfl, yI_mul, yI_add]
theorem m_161 {d g : Nat} {σ : xS} {Q : xR → xS → Prop} : Cl d 161 [.int (yI g)] σ Q ↔ Q (.inl (some (.int (yI (328 + 2 * g))))) σ := by
  show G d 161 0 [some (.int (yI g))] [] σ Q ↔ _
  simp only [s_161_0, s_161_1, s_161_2, s_161_3, s_161_4, s_161_5]
  rw [show (328 : Int32) = yI 328 from rfl, show (2 : Int32) = yI 2 from rfl, yI_mul, yI_add]
section
variable {d : Nat} {t : yT} {D : yD} {Q : xR → xS → Prop}
theorem m_162 {p w : Nat} (hp : p < 40) (hw : w < 8) : Cl (d + 1) 162 [.ref 160, .int (yI p), .int (yI w)] (yemb t) Q ↔ Q (.inl (some (.int (t.A 162 (8 + 8 * p + w))))) (yemb t) := by
  have h2 : yix (yI (8 + 8 * p + w)) 1540 := yix_I (by omega) (by omega)
  have h3 : (yI (8 + 8 * p + w)).toNatClampNeg = 8 + 8 * p + w := yI_clamp (by omega)
  show G (d + 1) 162 0 [some (.ref 160), some (.int (yI p)), some (.int (yI w))] [] (yemb t) Q ↔ _
  simp only [s_162_0, s_162_1, s_162_2, s_162_3, s_162_4, s_162_5, s_162_6, s_162_7, yO_160, yA_162, yn_162, m_160, Gk_v, xcat_nil, xcat_i, xcat_r, Nat.reduceAdd, Nat.reduceLeDiff, true_and, yI_add, h2, h3]
theorem m_163 {p w : Nat} {v : Int32} (hp : p < 40) (hw : w < 8) : Cl (d + 1) 163 [.ref 160, .int (yI p), .int (yI w), .int v] (yemb t) Q ↔ Q (.inl none) (yemb (t.s1 162 (8 + 8 * p + w) v)) := by
  have h2 : yix (yI (8 + 8 * p + w)) 1540 := yix_I (by omega) (by omega)
  have h3 : (yI (8 + 8 * p + w)).toNatClampNeg = 8 + 8 * p + w := yI_clamp (by omega)
  show G (d + 1) 163 0 [some (.ref 160), some (.int (yI p)), some (.int (yI w)), some (.int v)] [] (yemb t) Q ↔ _
  simp only [s_163_0, s_163_1, s_163_2, s_163_3, s_163_4, s_163_5, s_163_6, s_163_7, s_163_8, yO_160, yA_162, yn_162, m_160, Gk_v, xcat_nil, xcat_i, xcat_r, Nat.reduceAdd, Nat.reduceLeDiff, true_and, yI_add, h2, h3]
theorem yI0 : (0 : Int32) = yI 0 := rfl
theorem yI1 : (1 : Int32) = yI 1 := rfl
theorem yI2 : (2 : Int32) = yI 2 := rfl
theorem yI3 : (3 : Int32) = yI 3 := rfl
theorem yI4 : (4 : Int32) = yI 4 := rfl
theorem yI5 : (5 : Int32) = yI 5 := rfl
theorem yI6 : (6 : Int32) = yI 6 := rfl
theorem yI7 : (7 : Int32) = yI 7 := rfl
theorem mo_kd (M : yM (t.A 162) D) {p : Nat} (hp : p < 40) : Cl (d + 1) 162 [.ref 160, .int (yI p), .int 0] (yemb t) Q ↔ Q (.inl (some (.int (D.kd p)))) (yemb t) := by
  rw [yI0, m_162 hp (by omega), M.kd p hp]
theorem mo_bp (M : yM (t.A 162) D) {p : Nat} (hp : p < 40) : Cl (d + 1) 162 [.ref 160, .int (yI p), .int 1] (yemb t) Q ↔ Q (.inl (some (.int (yb (D.bp p))))) (yemb t) := by
  rw [yI1, m_162 hp (by omega), M.bp p hp]
theorem mo_pd (M : yM (t.A 162) D) {p : Nat} (hp : p < 40) : Cl (d + 1) 162 [.ref 160, .int (yI p), .int 2] (yemb t) Q ↔ Q (.inl (some (.int (D.pd p)))) (yemb t) := by
  rw [yI2, m_162 hp (by omega), M.pd p hp]
theorem mo_fr (M : yM (t.A 162) D) {p : Nat} (hp : p < 40) : Cl (d + 1) 162 [.ref 160, .int (yI p), .int 3] (yemb t) Q ↔ Q (.inl (some (.int (D.fr p)))) (yemb t) := by
  rw [yI3, m_162 hp (by omega), M.fr p hp]
theorem mo_tk (M : yM (t.A 162) D) {p : Nat} (hp : p < 40) : Cl (d + 1) 162 [.ref 160, .int (yI p), .int 4] (yemb t) Q ↔ Q (.inl (some (.int (D.tk p)))) (yemb t) := by
  rw [yI4, m_162 hp (by omega), M.tk p hp]
theorem mo_du (M : yM (t.A 162) D) {p : Nat} (hp : p < 40) : Cl (d + 1) 162 [.ref 160, .int (yI p), .int 5] (yemb t) Q ↔ Q (.inl (some (.int (D.du p)))) (yemb t) := by
  rw [yI5, m_162 hp (by omega), M.du p hp]
theorem mo_og (M : yM (t.A 162) D) {p : Nat} (hp : p < 40) : Cl (d + 1) 162 [.ref 160, .int (yI p), .int 6] (yemb t) Q ↔ Q (.inl (some (.int (D.og p)))) (yemb t) := by
  rw [yI6, m_162 hp (by omega), M.og p hp]
theorem mo_fm (M : yM (t.A 162) D) {p : Nat} (hp : p < 40) : Cl (d + 1) 162 [.ref 160, .int (yI p), .int 7] (yemb t) Q ↔ Q (.inl (some (.int (D.fm p)))) (yemb t) := by
  rw [yI7, m_162 hp (by omega), M.fm p hp]
theorem m_164 (M : yM (t.A 162) D) {p : Nat} (hp : p < 40) : Cl (d + 2) 164 [.ref 160, .int (yI p)] (yemb t) Q ↔ Q (.inl (some (.int (yb (ylit D p))))) (yemb t) := by
  show G (d + 2) 164 0 [some (.ref 160), some (.int (yI p))] [] (yemb t) Q ↔ _
  simp only [s_164_0, s_164_1, s_164_2, s_164_3, s_164_4, s_164_5, s_164_6, s_164_7, s_164_8, s_164_9, s_164_10, s_164_11, s_164_12, s_164_13, s_164_14, s_164_15, s_164_16, s_164_17, s_164_18, s_164_19, yO_160, mo_kd M hp, mo_bp M hp, Gk_v, xcat_nil, xcat_i, xcat_r, Nat.reduceAdd, Nat.reduceLeDiff, Nat.zero_le, true_and, ybo_0, ybo_1]
  unfold ylit
  by_cases h0 : D.kd p = 0
  · cases hb : D.bp p <;> simp [h0, yb]
  · by_cases h1 : D.kd p = 3
    · cases hb : D.bp p <;> simp [h1, yb]
    · cases hb : D.bp p <;> simp [h0, h1, yb]
theorem m_167 (M : yM (t.A 162) D) {c : Int32} : Cl d 167 [.ref 160, .int c] (yemb t) Q ↔ Q (.inl (some (.int (ycur D.un c)))) (yemb t) := by
  have h2 : yix 1 1540 := yix_I (n := 1) (by omega) (by omega)
  have h : ¬ (765 : Int32) = 0 := by decide
  have h3 : (1 : Int32).toNatClampNeg = 1 := rfl
  show G d 167 0 [some (.ref 160), some (.int c)] [] (yemb t) Q ↔ _
  simp only [s_167_0, s_167_1, s_167_2, s_167_3, s_167_4, s_167_5, s_167_6, s_167_7, s_167_8, s_167_9, s_167_10, s_167_11, s_167_12, s_167_13, s_167_14, s_167_15, s_167_16, s_167_17, s_167_18, s_167_19, s_167_20, s_167_21, s_167_22, yO_160, yA_162, yn_162, h2, h3, h, not_false_eq_true, M.un, true_and]
  rfl
end

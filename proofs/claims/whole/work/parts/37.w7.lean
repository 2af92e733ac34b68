/-! ===== the model: loads and what is wrong ===== -/
section
variable {d : Nat} {t : yT} {D : yD} {Q : xR → xS → Prop}
theorem yix0 : yix 0 1540 := yix_I (n := 0) (by omega) (by omega)
theorem yix1 : yix 1 1540 := yix_I (n := 1) (by omega) (by omega)
theorem yix2 : yix 2 1540 := yix_I (n := 2) (by omega) (by omega)
theorem yix3 : yix 3 1540 := yix_I (n := 3) (by omega) (by omega)
theorem ycl0 : (0 : Int32).toNatClampNeg = 0 := rfl
theorem ycl1 : (1 : Int32).toNatClampNeg = 1 := rfl
theorem ycl2 : (2 : Int32).toNatClampNeg = 2 := rfl
theorem ycl3 : (3 : Int32).toNatClampNeg = 3 := rfl
theorem m_165 (M : yM (t.A 162) D) {g : Nat} (hg : g < D.f) : Cl (d + 1) 165 [.ref 160, .int (yI g)] (yemb t) Q ↔ Q (.inl (some (.int (yI (ylast D g))))) (yemb t) := by
  have hf6 := M.ok.f6
  have hn1 := M.ok.n1
  have hn40 := M.ok.n40
  have e1 : yI g + 1 = yI (g + 1) := yI_add
  show G (d + 1) 165 0 [some (.ref 160), some (.int (yI g))] [] (yemb t) Q ↔ _
  by_cases h : g + 1 < D.f
  · have h1 : ¬ yI D.f ≤ yI (g + 1) := fun h' => absurd ((yI_le (by omega) (by omega)).mp h') (by omega)
    have h2 : yix (yI (328 + 2 * (g + 1))) 1540 := yix_I (by omega) (by omega)
    have h3 : (yI (328 + 2 * (g + 1))).toNatClampNeg = 328 + 2 * (g + 1) := yI_clamp (by omega)
    have h5 := M.ok.fpm g h
    simp only [s_165_0, s_165_1, s_165_2, s_165_3, s_165_4, s_165_5, s_165_6, s_165_7, s_165_8, s_165_9, s_165_10, s_165_11, s_165_12, s_165_13, s_165_14, s_165_15, s_165_16, s_165_17, s_165_18, s_165_19, s_165_20, s_165_21, s_165_22, s_165_23, s_165_24, yO_160, yA_162, yn_162, yix3, ycl3, M.f, e1, h1, if_false, m_161, Gk_v, xcat_nil, xcat_i, xcat_r, Nat.reduceAdd, Nat.reduceLeDiff, h2, h3, true_and, M.fp (g + 1) (by omega), yI_sub1 (show 1 ≤ D.fp (g + 1) by omega)]
    rw [ylast, if_pos h]
  · have h1 : yI D.f ≤ yI (g + 1) := (yI_le (by omega) (by omega)).mpr (by omega)
    simp only [s_165_0, s_165_1, s_165_2, s_165_3, s_165_4, s_165_5, s_165_6, s_165_7, s_165_8, s_165_9, s_165_10, s_165_11, s_165_12, s_165_13, s_165_14, s_165_15, s_165_16, s_165_17, s_165_18, s_165_19, s_165_20, s_165_21, s_165_22, s_165_23, s_165_24, yO_160, yA_162, yn_162, yix3, ycl3, yix0, ycl0, M.f, e1, h1, if_true, M.n, yI_sub1 hn1, true_and]
    rw [ylast, if_neg h]
theorem l_168 (M : yM (t.A 162) D) {g : Nat} (hg : g < D.f) : ∀ n p a, p + n = ylast D g + 1 → (G (d + 3) 168 8 [some (.ref 160), some (.int (yI g)), some (.int a), some (.int (yI p))] [] (yemb t) Q ↔ Q (.inl (some (.int (yfold (fun p a => if ylit D p then a + ycur D.un (D.tk p) else a) n p a)))) (yemb t)) := by
  have hn40 := M.ok.n40
  have hl := ylast_lt M.ok hg
  intro n
  induction n with
  | zero =>
    intro p a hp
    have h1 : yI (ylast D g) < yI p := (yI_lt (by omega) (by omega)).mpr (by omega)
    rw [s_168_8]
    simp only [s_168_0, s_168_1, s_168_2, s_168_3, s_168_4, s_168_5, s_168_6, s_168_7, s_168_9, s_168_10, s_168_11, s_168_12, s_168_13, s_168_14, s_168_15, s_168_16, s_168_17, s_168_18, s_168_19, s_168_20, s_168_21, s_168_22, s_168_23, s_168_24, s_168_25, s_168_26, s_168_27, s_168_28, s_168_29, s_168_30, s_168_31, yO_160, m_165 M hg, Gk_v, xcat_nil, xcat_i, Nat.reduceAdd, Nat.reduceLeDiff, true_and, h1, if_true, yfold]
  | succ n ih =>
    intro p a hp
    have h1 : ¬ yI (ylast D g) < yI p := fun h => absurd ((yI_lt (by omega) (by omega)).mp h) (by omega)
    have h4 : yI p + 1 = yI (p + 1) := yI_add
    rw [s_168_8]
    simp only [s_168_0, s_168_1, s_168_2, s_168_3, s_168_4, s_168_5, s_168_6, s_168_7, s_168_9, s_168_10, s_168_11, s_168_12, s_168_13, s_168_14, s_168_15, s_168_16, s_168_17, s_168_18, s_168_19, s_168_20, s_168_21, s_168_22, s_168_23, s_168_24, s_168_25, s_168_26, s_168_27, s_168_28, s_168_29, s_168_30, s_168_31, yO_160, m_165 M hg, m_164 M (show p < 40 by omega), mo_tk M (show p < 40 by omega), m_167 M, Gk_v, xcat_nil, xcat_i, xcat_r, Nat.reduceAdd, Nat.reduceLeDiff, true_and, h1, if_false, ifb, ykl_i, h4, ih (p + 1) _ (show p + 1 + n = ylast D g + 1 by omega)]
    simp only [yfold]
    cases hb : ylit D p <;> simp
theorem m_168 (M : yM (t.A 162) D) {g : Nat} (hg : g < D.f) : Cl (d + 3) 168 [.ref 160, .int (yI g)] (yemb t) Q ↔ Q (.inl (some (.int (yload D g)))) (yemb t) := by
  have hf6 := M.ok.f6
  have hfl := yfp_last M.ok hg
  have h2 : yix (yI (328 + 2 * g)) 1540 := yix_I (by omega) (by omega)
  have h3 : (yI (328 + 2 * g)).toNatClampNeg = 328 + 2 * g := yI_clamp (by omega)
  show G (d + 3) 168 0 [some (.ref 160), some (.int (yI g)), none, none] [] (yemb t) Q ↔ _
  simp only [s_168_0, s_168_1, s_168_2, s_168_3, s_168_4, s_168_5, s_168_6, s_168_7, ykl_i, yO_160, yA_162, yn_162, m_161, Gk_v, xcat_nil, xcat_i, xcat_r, Nat.reduceAdd, Nat.reduceLeDiff, h2, h3, true_and, M.fp g (show g < 6 by omega)]
  exact l_168 M hg _ _ _ (by omega)
theorem m_169 (M : yM (t.A 162) D) {g : Nat} (hg : g < D.f) : Cl (d + 4) 169 [.ref 160, .int (yI g)] (yemb t) Q ↔ Q (.inl (some (.int (yb (decide (D.fl g < yload D g)))))) (yemb t) := by
  have hf6 := M.ok.f6
  have h2 : yix (yI (328 + 2 * g + 1)) 1540 := yix_I (by omega) (by omega)
  have h3 : (yI (328 + 2 * g + 1)).toNatClampNeg = 328 + 2 * g + 1 := yI_clamp (by omega)
  have e1 : yI (328 + 2 * g) + 1 = yI (328 + 2 * g + 1) := yI_add
  show G (d + 4) 169 0 [some (.ref 160), some (.int (yI g))] [] (yemb t) Q ↔ _
  simp only [s_169_0, s_169_1, s_169_2, s_169_3, s_169_4, s_169_5, s_169_6, s_169_7, s_169_8, s_169_9, s_169_10, s_169_11, s_169_12, s_169_13, s_169_14, yO_160, yA_162, yn_162, m_161, m_168 M hg, Gk_v, xcat_nil, xcat_i, xcat_r, Nat.reduceAdd, Nat.reduceLeDiff, h2, h3, e1, true_and, M.fl g (show g < 6 by omega), ybo_0, ybo_1]
  by_cases h : D.fl g < yload D g
  · have h' : ¬ yload D g ≤ D.fl g := Int32.not_le.mpr h
    simp [h, h', yb]
  · have h' : yload D g ≤ D.fl g := Int32.not_lt.mp h
    simp [h, h', yb]
theorem m_172 (M : yM (t.A 162) D) {p : Nat} (hp : p < 40) : Cl (d + 2) 172 [.ref 160, .int (yI p)] (yemb t) Q ↔ Q (.inl (some (.int (yb (ywrong D p))))) (yemb t) := by
  show G (d + 2) 172 0 [some (.ref 160), some (.int (yI p))] [] (yemb t) Q ↔ _
  simp only [s_172_0, s_172_1, s_172_2, s_172_3, s_172_4, s_172_5, s_172_6, s_172_7, s_172_8, s_172_9, s_172_10, s_172_11, s_172_12, s_172_13, s_172_14, s_172_15, s_172_16, s_172_17, s_172_18, s_172_19, s_172_20, s_172_21, s_172_22, s_172_23, s_172_24, s_172_25, s_172_26, s_172_27, s_172_28, s_172_29, yO_160, mo_kd M hp, mo_bp M hp, mo_tk M hp, mo_du M hp, Gk_v, xcat_nil, xcat_i, xcat_r, Nat.reduceAdd, Nat.reduceLeDiff, Nat.zero_le, true_and, ybo_0, ybo_1]
  unfold ywrong yout
  by_cases h0 : D.kd p = 1
  · cases hb : D.bp p <;> simp [h0, yb]
  · by_cases h1 : D.kd p = 2
    · cases hb : D.bp p <;> simp [h1, yb]
    · cases hb : D.bp p <;> by_cases h2 : D.tk p = D.du p <;> simp [h0, h1, h2, yb]
theorem l_173 (M : yM (t.A 162) D) : ∀ n p a, p + n = D.n → (G (d + 3) 173 4 [some (.ref 160), some (.int a), some (.int (yI p))] [] (yemb t) Q ↔ Q (.inl (some (.int (yfold (fun p a => if ywrong D p then a + 1 else a) n p a)))) (yemb t)) := by
  have hn40 := M.ok.n40
  intro n
  induction n with
  | zero =>
    intro p a hp
    have h1 : yI D.n ≤ yI p := (yI_le (by omega) (by omega)).mpr (by omega)
    rw [s_173_4]
    simp only [s_173_0, s_173_1, s_173_2, s_173_3, s_173_5, s_173_6, s_173_7, s_173_8, s_173_9, s_173_10, s_173_11, s_173_12, s_173_13, s_173_14, s_173_15, s_173_16, s_173_17, s_173_18, s_173_19, s_173_20, s_173_21, s_173_22, s_173_23, yO_160, yA_162, yn_162, yix0, ycl0, M.n, h1, if_true, yfold, true_and]
  | succ n ih =>
    intro p a hp
    have h1 : ¬ yI D.n ≤ yI p := fun h => absurd ((yI_le (by omega) (by omega)).mp h) (by omega)
    have h4 : yI p + 1 = yI (p + 1) := yI_add
    rw [s_173_4]
    simp only [s_173_0, s_173_1, s_173_2, s_173_3, s_173_5, s_173_6, s_173_7, s_173_8, s_173_9, s_173_10, s_173_11, s_173_12, s_173_13, s_173_14, s_173_15, s_173_16, s_173_17, s_173_18, s_173_19, s_173_20, s_173_21, s_173_22, s_173_23, yO_160, yA_162, yn_162, yix0, ycl0, M.n, m_172 M (show p < 40 by omega), Gk_v, xcat_nil, xcat_i, xcat_r, Nat.reduceAdd, Nat.reduceLeDiff, Nat.zero_le, true_and, h1, if_false, ifb, ykl_i, ykl_r, h4, ih (p + 1) _ (show p + 1 + n = D.n by omega)]
    simp only [yfold]
    cases hb : ywrong D p <;> simp
theorem m_173 (M : yM (t.A 162) D) : Cl (d + 3) 173 [.ref 160] (yemb t) Q ↔ Q (.inl (some (.int (ywrongs D)))) (yemb t) := by
  show G (d + 3) 173 0 [some (.ref 160), none, none] [] (yemb t) Q ↔ _
  simp only [s_173_0, s_173_1, s_173_2, s_173_3, ykl_i, ykl_r]
  exact l_173 M D.n 0 0 (Nat.zero_add _)
end

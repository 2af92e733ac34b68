/-! ===== the model: why ===== -/
theorem ys1_ne {t : yT} {a b j : Nat} {v : Int32} (h : b ≠ a) : (t.s1 a j v).A b = t.A b := by
  simp [yT.s1, yT.sA, h]
theorem yM_s1 {t : yT} {D : yD} {a j : Nat} {v : Int32} (h : (162 : Nat) ≠ a) (M : yM (t.A 162) D) : yM ((t.s1 a j v).A 162) D := by
  rw [ys1_ne h]
  exact M
section
variable {d : Nat} {t : yT} {D : yD} {Q : xR → xS → Prop}
theorem m_196 (M : yM (t.A 162) D) {p : Nat} (hp : p < D.n) : Cl (d + 5) 196 [.ref 160, .int (yI p)] (yemb t) Q ↔ Q (.inl (some (.int (ywhy D p)))) (yemb (t.s1 160 0 0)) := by
  have hn40 := M.ok.n40
  have M1 : yM ((t.s1 160 0 0).A 162) D := yM_s1 (by decide) M
  have hfe := yfeed_lt M.ok p
  have hin : (0 : Int32) ≤ yI p ∧ yI p < yI D.n := ⟨(yI_le (n := 0) (by omega) (by omega)).mpr (by omega), (yI_lt (by omega) (by omega)).mpr hp⟩
  have hq : p < 40 := by omega
  show G (d + 5) 196 0 [some (.ref 160), some (.int (yI p))] [] (yemb t) Q ↔ _
  simp only [s_196_0, s_196_1, s_196_2, s_196_3, s_196_4, s_196_5, s_196_6, s_196_7, s_196_8, s_196_9, s_196_10, s_196_11, s_196_12, s_196_13, s_196_14, s_196_15, s_196_16, s_196_17, s_196_18, s_196_19, s_196_20, s_196_21, s_196_22, s_196_23, s_196_24, s_196_25, s_196_26, s_196_27, s_196_28, s_196_29, s_196_30, s_196_31, s_196_32, s_196_33, s_196_34, s_196_35, s_196_36, s_196_37, s_196_38, s_196_39, s_196_40, s_196_41, s_196_42, s_196_43, s_196_44, s_196_45, s_196_46, s_196_47, s_196_48, s_196_49, s_196_50, s_196_51, s_196_52, s_196_53, s_196_54, s_196_55, s_196_56, s_196_57, s_196_58, s_196_59, s_196_60, s_196_61, s_196_62, s_196_63, s_196_64, s_196_65, s_196_66, s_196_67, s_196_68, s_196_69, s_196_70, s_196_71, s_196_72, s_196_73, s_196_74, s_196_75, s_196_76, s_196_77, s_196_78, yO_160, m_185 M1 (ys1_same), hin, and_self, decide_true, Bool.not_true, Bool.false_eq_true, if_false, mo_bp M1 hq, mo_kd M1 hq, mo_og M1 hq, mo_tk M1 hq, mo_du M1 hq, m_195 M1 hq, m_166 M1 hp, m_169 M1 hfe, Gk_v, xcat_nil, xcat_i, xcat_r, Nat.reduceAdd, Nat.reduceLeDiff, Nat.zero_le, true_and, ifb]
  have hog : D.og p = -1 ↔ D.og p < 0 := by
    rcases M.ok.ogm p hp with h | ⟨q, hq, h⟩
    · rw [h]
      decide
    · rw [h]
      constructor
      · intro h1
        have := congrArg Int32.toInt h1
        rw [yI_toInt (by omega)] at this
        have h2 : (-1 : Int32).toInt = -1 := rfl
        omega
      · intro h1
        exact absurd h1 (yI_nneg (by omega))
  unfold ywhy
  cases hb : D.bp p
  · by_cases h1 : D.kd p = 1
    · simp [h1, yb]
    · by_cases h2 : D.kd p = 2
      · simp [h2, yb]
      · by_cases h3 : D.og p < 0
        · simp [h1, h2, h3, hog.mpr h3, yb]
        · have h4 : ¬ D.og p = -1 := fun h => h3 (hog.mp h)
          by_cases h5 : D.tk p = D.du p
          · by_cases h6 : D.fl (yfeed D p) < yload D (yfeed D p) <;> simp [h1, h2, h3, h4, h5, h6, yb]
          · by_cases h7 : D.og p = yI p
            · rw [h7] at h3 h4
              cases h6 : ydead D p 0 <;> simp [h1, h2, h3, h4, h5, h7, yb]
            · cases h6 : ydead D p 0 <;> simp [h1, h2, h3, h4, h5, h7, yb]
  · simp [yb]
end

/-! ===== the model: shown colors, the current ===== -/
theorem yshare_color {c ld : Int32} {l : Nat} (hl : l < 10000) (h : yI l < ld) : yshare c (yI l) ld = ycolor (((c >>> ((16 : Int32) &&& 31)) &&& 255) * yI l / ld) (((c >>> ((8 : Int32) &&& 31)) &&& 255) * yI l / ld) ((c &&& 255) * yI l / ld) := by
  have h0 : ¬ ld < 0 := by
    intro h1
    have h2 := Int32.lt_iff_toInt_lt.mp h
    have h3 := Int32.lt_iff_toInt_lt.mp h1
    rw [yI_toInt (by omega)] at h2
    have h4 : (0 : Int32).toInt = 0 := rfl
    omega
  obtain ⟨n, hn, rfl⟩ := yI_of h0
  have hln := (yI_lt (by omega) hn).mp h
  have h1 : ¬ (yI n ≤ yI l ∨ yI n ≤ 0) := by
    rintro (h1 | h1)
    · exact absurd ((yI_le hn (by omega)).mp h1) (by omega)
    · exact absurd ((yI_le (m := 0) hn (by omega)).mp h1) (by omega)
  unfold yshare
  rw [if_neg h1]
  obtain ⟨a, ha, ea⟩ := yand255 (c >>> ((16 : Int32) &&& 31))
  obtain ⟨b, hb, eb⟩ := yand255 (c >>> ((8 : Int32) &&& 31))
  obtain ⟨e, he, ee⟩ := yand255 c
  rw [ea, eb, ee]
  obtain ⟨a', ha', ea'⟩ := yshare_ch ha hl hln hn
  obtain ⟨b', hb', eb'⟩ := yshare_ch hb hl hln hn
  obtain ⟨e', he', ee'⟩ := yshare_ch he hl hln hn
  rw [ea', eb', ee', yrgb_nat ha' hb' he', ycolor_nat]
theorem m_146 {d : Nat} {r g b : Int32} {σ : xS} {Q : xR → xS → Prop} : Cl d 146 [.int r, .int g, .int b] σ Q ↔ Q (.inl (some (.int (ycolor r g b)))) σ := by
  show G d 146 0 [some (.int r), some (.int g), some (.int b)] [] σ Q ↔ _
  simp only [s_146_0, s_146_1, s_146_2, s_146_3, s_146_4, s_146_5, s_146_6, s_146_7, s_146_8, s_146_9]
  rfl
section
variable {d : Nat} {t : yT} {D : yD} {Q : xR → xS → Prop}
theorem m_170 (M : yM (t.A 162) D) {p : Nat} (hp : p < D.n) : Cl (d + 5) 170 [.ref 160, .int (yI p)] (yemb t) Q ↔ Q (.inl (some (.int (yshown D p)))) (yemb t) := by
  have hn40 := M.ok.n40
  have hf6 := M.ok.f6
  have hfe := yfeed_lt M.ok p
  obtain ⟨l, hl, el⟩ := M.ok.fll _ hfe
  have h2 : yix (yI (328 + 2 * yfeed D p + 1)) 1540 := yix_I (by omega) (by omega)
  have h3 : (yI (328 + 2 * yfeed D p + 1)).toNatClampNeg = 328 + 2 * yfeed D p + 1 := yI_clamp (by omega)
  have e1 : yI (328 + 2 * yfeed D p) + 1 = yI (328 + 2 * yfeed D p + 1) := yI_add
  show G (d + 5) 170 0 [some (.ref 160), some (.int (yI p)), none, none, none, none] [] (yemb t) Q ↔ _
  unfold yshown
  cases hb : ylit D p
  · simp only [s_170_0, s_170_1, s_170_2, s_170_3, s_170_4, s_170_5, s_170_6, s_170_7, s_170_8, s_170_9, s_170_10, s_170_11, s_170_12, s_170_13, s_170_14, s_170_15, s_170_16, s_170_17, s_170_18, s_170_19, s_170_20, s_170_21, s_170_22, s_170_23, s_170_24, s_170_25, s_170_26, s_170_27, s_170_28, s_170_29, s_170_30, s_170_31, s_170_32, s_170_33, s_170_34, s_170_35, s_170_36, s_170_37, s_170_38, s_170_39, s_170_40, s_170_41, s_170_42, s_170_43, s_170_44, s_170_45, s_170_46, s_170_47, s_170_48, s_170_49, s_170_50, s_170_51, s_170_52, s_170_53, s_170_54, s_170_55, s_170_56, s_170_57, s_170_58, s_170_59, yO_160, m_164 M (show p < 40 by omega), Gk_v, xcat_nil, xcat_i, xcat_r, Nat.reduceAdd, Nat.reduceLeDiff, Nat.zero_le, true_and, ifbn, hb, Bool.false_eq_true, if_false]
  · by_cases hs : D.fl (yfeed D p) < yload D (yfeed D p)
    · have hne : ¬ yload D (yfeed D p) = 0 := by
        intro h
        rw [h, el] at hs
        exact absurd ((yI_lt (m := 0) (by omega) (by omega)).mp hs) (by omega)
      simp only [s_170_0, s_170_1, s_170_2, s_170_3, s_170_4, s_170_5, s_170_6, s_170_7, s_170_8, s_170_9, s_170_10, s_170_11, s_170_12, s_170_13, s_170_14, s_170_15, s_170_16, s_170_17, s_170_18, s_170_19, s_170_20, s_170_21, s_170_22, s_170_23, s_170_24, s_170_25, s_170_26, s_170_27, s_170_28, s_170_29, s_170_30, s_170_31, s_170_32, s_170_33, s_170_34, s_170_35, s_170_36, s_170_37, s_170_38, s_170_39, s_170_40, s_170_41, s_170_42, s_170_43, s_170_44, s_170_45, s_170_46, s_170_47, s_170_48, s_170_49, s_170_50, s_170_51, s_170_52, s_170_53, s_170_54, s_170_55, s_170_56, s_170_57, s_170_58, s_170_59, yO_160, yA_162, yn_162, m_164 M (show p < 40 by omega), m_166 M hp, mo_tk M (show p < 40 by omega), m_169 M hfe, m_168 M hfe, m_161, m_146, Gk_v, xcat_nil, xcat_i, xcat_r, Nat.reduceAdd, Nat.reduceLeDiff, Nat.zero_le, true_and, ifbn, hb, if_true, ykl_i, ykl_n, ykl_r, decide_eq_true hs, h2, h3, e1, M.fl (yfeed D p) (show yfeed D p < 6 by omega), hne, not_false_eq_true]
      rw [el] at hs ⊢
      rw [yshare_color hl hs]
    · have hle : yload D (yfeed D p) ≤ D.fl (yfeed D p) := Int32.not_lt.mp hs
      simp only [s_170_0, s_170_1, s_170_2, s_170_3, s_170_4, s_170_5, s_170_6, s_170_7, s_170_8, s_170_9, s_170_10, s_170_11, s_170_12, s_170_13, s_170_14, s_170_15, s_170_16, s_170_17, s_170_18, s_170_19, s_170_20, s_170_21, s_170_22, s_170_23, s_170_24, s_170_25, s_170_26, s_170_27, s_170_28, s_170_29, s_170_30, s_170_31, s_170_32, s_170_33, s_170_34, s_170_35, s_170_36, s_170_37, s_170_38, s_170_39, s_170_40, s_170_41, s_170_42, s_170_43, s_170_44, s_170_45, s_170_46, s_170_47, s_170_48, s_170_49, s_170_50, s_170_51, s_170_52, s_170_53, s_170_54, s_170_55, s_170_56, s_170_57, s_170_58, s_170_59, yO_160, yA_162, yn_162, m_164 M (show p < 40 by omega), m_166 M hp, mo_tk M (show p < 40 by omega), m_169 M hfe, Gk_v, xcat_nil, xcat_i, xcat_r, Nat.reduceAdd, Nat.reduceLeDiff, Nat.zero_le, true_and, ifbn, hb, if_true, ykl_i, ykl_n, ykl_r, decide_eq_false hs, Bool.false_eq_true, if_false, yshare, hle, true_or]
theorem l_171 (M : yM (t.A 162) D) : ∀ n p a, p + n = D.n → (G (d + 6) 171 4 [some (.ref 160), some (.int a), some (.int (yI p))] [] (yemb t) Q ↔ Q (.inl (some (.int (yfold (fun p a => a + ycur D.un (yshown D p)) n p a)))) (yemb t)) := by
  have hn40 := M.ok.n40
  intro n
  induction n with
  | zero =>
    intro p a hp
    have h1 : yI D.n ≤ yI p := (yI_le (by omega) (by omega)).mpr (by omega)
    rw [s_171_4]
    simp only [s_171_0, s_171_1, s_171_2, s_171_3, s_171_5, s_171_6, s_171_7, s_171_8, s_171_9, s_171_10, s_171_11, s_171_12, s_171_13, s_171_14, s_171_15, s_171_16, s_171_17, s_171_18, s_171_19, s_171_20, s_171_21, yO_160, yA_162, yn_162, yix0, ycl0, M.n, h1, if_true, yfold, true_and]
  | succ n ih =>
    intro p a hp
    have h1 : ¬ yI D.n ≤ yI p := fun h => absurd ((yI_le (by omega) (by omega)).mp h) (by omega)
    have h4 : yI p + 1 = yI (p + 1) := yI_add
    rw [s_171_4]
    simp only [s_171_0, s_171_1, s_171_2, s_171_3, s_171_5, s_171_6, s_171_7, s_171_8, s_171_9, s_171_10, s_171_11, s_171_12, s_171_13, s_171_14, s_171_15, s_171_16, s_171_17, s_171_18, s_171_19, s_171_20, s_171_21, yO_160, yA_162, yn_162, yix0, ycl0, M.n, m_170 M (show p < D.n by omega), m_167 M, Gk_v, xcat_nil, xcat_i, xcat_r, Nat.reduceAdd, Nat.reduceLeDiff, Nat.zero_le, true_and, h1, if_false, ykl_i, ykl_r, h4, ih (p + 1) _ (show p + 1 + n = D.n by omega), yfold]
theorem m_171 (M : yM (t.A 162) D) : Cl (d + 6) 171 [.ref 160] (yemb t) Q ↔ Q (.inl (some (.int (ycurrent D)))) (yemb t) := by
  show G (d + 6) 171 0 [some (.ref 160), none, none] [] (yemb t) Q ↔ _
  simp only [s_171_0, s_171_1, s_171_2, s_171_3, ykl_i, ykl_r]
  rw [ycurrent_flat M.ok]
  exact l_171 M D.n 0 0 (Nat.zero_add _)
end

/-! ===== texts are built: what is appended ===== -/
def pTy (σ : xS) (s vs : Nat) (w : List Nat) : Prop :=
  ∃ f tl, xStr σ s vs w.length f tl ∧ ((∀ i, i < w.length → f i = yI (pbt w i) ∧ pbt w i < 128) ∧ (((1000100 ≤ s ∧ s < 1000126) ∧ 1000000 ≤ vs) ∨ (s < 1000000 ∧ vs < 1000000)))
theorem pTy_t {i : Nat} {σ : xS} (hi : i < 26) : pTy σ (1000100 + i) (1000200 + i) (ptw i) := by
  obtain ⟨h0, h1⟩ := yw_8 i hi
  refine ⟨fun j => (xstr.getD i []).getD j 0, [], by rw [ptw_len]; exact xStr_t hi, fun q hq => ?_, Or.inl ⟨⟨by omega, by omega⟩, by omega⟩⟩
  rw [ptw_len] at hq
  obtain ⟨h2, h3⟩ := h1 q hq
  rw [ptw_bt hq]
  exact ⟨h3, h2⟩
theorem pTy.keep {σ τ : xS} {s vs : Nat} {w : List Nat} (T : pTy σ s vs w) (hz : τ.2.2 = σ.2.2) (h : ∀ b e, σ.1 b = some e → b = s ∨ b = vs → τ.1 b = some e) : pTy τ s vs w := by
  obtain ⟨f, tl, ⟨h1, h2⟩, h3, h4⟩ := T
  refine ⟨f, tl, ?_, h3, h4⟩
  rcases h4 with ⟨g1, g2⟩ | ⟨g1, g2⟩
  · exact ⟨by rw [xRd_x (by omega) hz]; exact h1, by rw [xRd_x g2 hz]; exact h2⟩
  · rw [yrd_lt g1] at h1
    rw [yrd_lt g2] at h2
    exact ⟨by rw [yrd_lt g1]; exact h _ _ h1 (Or.inl rfl), by rw [yrd_lt g2]; exact h _ _ h2 (Or.inr rfl)⟩
theorem pbt_cat {w u : List Nat} {i : Nat} : pbt (w ++ u) i = if i < w.length then pbt w i else pbt u (i - w.length) := by
  unfold pbt
  rw [List.getD_eq_getElem?_getD, List.getD_eq_getElem?_getD, List.getD_eq_getElem?_getD]
  by_cases h : i < w.length
  · rw [if_pos h, List.getElem?_append_left h]
  · rw [if_neg h, List.getElem?_append_right (by omega)]
section
variable {d : Nat} {σ0 σ τ : xS} {c x a v cap s vs : Nat} {w u : List Nat}
/-- the builder's letters written anew, and how many they are -/
theorem pSB.set (S : pSB σ0 c x σ a v w cap) {f' : Nat → Int32} (hf : ∀ i, i < cap → f' i = yI (pbt (w ++ u) i) ∧ pbt (w ++ u) i < 128) (hl : (w ++ u).length ≤ cap) : pSB σ0 c x (xwr (xwr σ v (.inl (1, (cap, .inl f')))) a (.inr (14, [.ref v, .int 0, .int 0, .int (yI (w ++ u).length)]))) a v (w ++ u) cap := by
  have hva := S.va
  obtain ⟨⟨F, Z⟩, ⟨ha0, ha⟩, ⟨h1, hv0, hv⟩, ⟨f, h2, h3⟩, hw, hc⟩ := S
  have Z1 := pZ_wr Z h2 (e' := .inl (1, (cap, .inl f')))
  have F1 := pF_hi F Z h2 hv0 (e' := .inl (1, (cap, .inl f')))
  have b1 : (xwr σ v (.inl (1, (cap, .inl f')))).1 a = some (.inr (14, [.ref v, .int 0, .int 0, .int (yI w.length)])) := by rw [xwr_1, if_neg (fun q => hva q.symm), h1]
  exact ⟨⟨pF_hi F1 Z1 b1 ha0, pZ_wr Z1 b1⟩, ⟨ha0, ha⟩, ⟨pwr_at, hv0, hv⟩, ⟨f', by rw [xwr_1, if_neg hva, pwr_at], hf⟩, hl, hc⟩
theorem m_163 (S : pSB σ0 c x σ a v w cap) (T : pTy σ s vs u) (hne : vs ≠ v) (hl : w.length + u.length ≤ cap) : ∃ f', Ra (d + 2) 163 [.ref a, .int (yI w.length), .ref s] σ (.inl none) (xwr σ v (.inl (1, (cap, .inl f')))) ∧ ∀ i, i < cap → f' i = yI (pbt (w ++ u) i) ∧ pbt (w ++ u) i < 128 := by
  have o := S.ob
  obtain ⟨⟨F, Z⟩, ⟨ha0, ha⟩, ⟨h1, hv0, hv⟩, ⟨f, h2, h3⟩, hw, hc⟩ := S
  obtain ⟨g, tl, ⟨t1, t2⟩, t3, t4⟩ := T
  refine ⟨va_cpy g f 0 w.length u.length, fun Q => ?_, fun i hi => ?_⟩
  · have n1 : ¬ yI w.length < 0 := yI_nneg (by omega)
    have n2 : (yI w.length).toNatClampNeg = w.length := yI_clamp (by omega)
    have m1 : ¬ yI u.length < 0 := yI_nneg (by omega)
    have m2 : (yI u.length).toNatClampNeg = u.length := yI_clamp (by omega)
    have fit := pxfit t3 (Nat.le_refl _)
    have le0 : 0 + u.length ≤ u.length := by omega
    have ec : Int32.ofNat u.length = yI u.length := rfl
    have g219 : ∀ d' Q', Cl d' 219 [.ref s] σ Q' ↔ Q' (.inl (some (.int 0))) σ := fun d' Q' => m_219g (d := d') ⟨t1, t2⟩ Q'
    have g162 : ∀ Q', Cl (d + 1) 162 [.ref a, .ref s] σ Q' ↔ Q' (.inl none) σ := by
      intro Q'
      have h1 : ¬ (1 : Int32) = 0 := by decide
      show G (d + 1) 162 0 [some (.ref a), some (.ref s)] [] σ Q' ↔ _
      simp only [s_162_0, s_162_1, s_162_2, s_162_3, s_162_4, s_162_5, s_162_6, o, t1, h1, g219, if_true, if_false, hgf_s, hsel_0, hsel_1, hsel_2, hsel_3, hsel_4, hsel_5, hsel_6, hsel_7, hsel_8, hset_0, hset_1, hset_2, hset_3, hset_4, hset_5, hset_6, hset_7, hset_8, hpf_s, hcl_s, hai_s, hpi_0, hpi_1, hln_0, hln_1, List.length_cons, List.length_nil, xwr_1, xwr_2, xnew_1, xnew_n, xnew_s, xnew_z, Nat.reduceLT, ite_true, and_self, hp_8_0, hp_8_1, hn_8_1, hp_8_2, hn_8_2, hp_9_0, hp_9_1, hp_9_2, hp_9_3, hp_9_4, hp_9_5, hn_9_5, hp_9_6, hn_9_6, hp_9_7, hn_9_7, hp_10_0, hp_10_1, hp_10_2, hn_10_2, hp_10_3, hn_10_3, hp_11_0, hp_12_0, hn_12_0, hp_12_1, hp_12_2, hp_12_3, hp_12_4, hp_12_5, hn_12_5, hp_12_6, hn_12_6, hp_12_7, hp_12_8, hp_13_0, hn_13_0, hp_13_1, hp_13_2, hp_13_3, hp_14_0, hn_14_0, hp_14_1, hp_14_2, hp_14_3, xdef_8, xdef_9, xdef_10, xdef_11, xdef_12, xdef_13, xdef_14, Gk_v, Gk_n, xcat_nil, xcat_i, xcat_r, xcat_l, xcat_d, Nat.zero_le, Nat.reduceAdd, Nat.reduceLeDiff, true_and, and_true, ykl_i, ykl_r, ykl_n, ykl_l]
      simp only [s_162_9]
    have g167 : ∀ Q', Cl (d + 1) 167 [.ref s, .ref v, .int (yI w.length), .int 0] σ Q' ↔ Q' (.inl none) (xwr σ v (.inl (1, (cap, .inl (va_cpy g f 0 w.length u.length))))) := by
      intro Q'
      show G (d + 1) 167 0 [some (.ref s), some (.ref v), some (.int (yI w.length)), some (.int 0)] [] σ Q' ↔ _
      simp only [s_167_0, s_167_1, s_167_2, s_167_3, s_167_4, s_167_5, s_167_6, s_167_7, s_167_8, s_167_9, s_167_10, s_167_11, s_167_12, s_167_13, s_167_14, t1, t2, h2, hv, g219, pshl0, ec, n1, n2, m1, m2, fit, le0, hl, hcp_1, ycl00, ynz0, ne_eq, not_true_eq_false, not_false_eq_true, if_false, hgf_s, hsel_0, hsel_1, hsel_2, hsel_3, hsel_4, hsel_5, hsel_6, hsel_7, hsel_8, hset_0, hset_1, hset_2, hset_3, hset_4, hset_5, hset_6, hset_7, hset_8, hpf_s, hcl_s, hai_s, hpi_0, hpi_1, hln_0, hln_1, List.length_cons, List.length_nil, xwr_1, xwr_2, xnew_1, xnew_n, xnew_s, xnew_z, Nat.reduceLT, ite_true, and_self, hp_8_0, hp_8_1, hn_8_1, hp_8_2, hn_8_2, hp_9_0, hp_9_1, hp_9_2, hp_9_3, hp_9_4, hp_9_5, hn_9_5, hp_9_6, hn_9_6, hp_9_7, hn_9_7, hp_10_0, hp_10_1, hp_10_2, hn_10_2, hp_10_3, hn_10_3, hp_11_0, hp_12_0, hn_12_0, hp_12_1, hp_12_2, hp_12_3, hp_12_4, hp_12_5, hn_12_5, hp_12_6, hn_12_6, hp_12_7, hp_12_8, hp_13_0, hn_13_0, hp_13_1, hp_13_2, hp_13_3, hp_14_0, hn_14_0, hp_14_1, hp_14_2, hp_14_3, xdef_8, xdef_9, xdef_10, xdef_11, xdef_12, xdef_13, xdef_14, Gk_v, Gk_n, xcat_nil, xcat_i, xcat_r, xcat_l, xcat_d, Nat.zero_le, Nat.reduceAdd, Nat.reduceLeDiff, true_and, and_true, ykl_i, ykl_r, ykl_n, ykl_l]
      simp only [s_167_15, s_167_25]
    show G (d + 2) 163 0 [some (.ref a), some (.int (yI w.length)), some (.ref s)] [] σ Q ↔ _
    simp only [s_163_0, s_163_1, s_163_2, s_163_3, s_163_4, s_163_5, s_163_6, s_163_7, s_163_8, s_163_9, s_163_10, o, t1, g162 _, g167 _, hgf_s, hsel_0, hsel_1, hsel_2, hsel_3, hsel_4, hsel_5, hsel_6, hsel_7, hsel_8, hset_0, hset_1, hset_2, hset_3, hset_4, hset_5, hset_6, hset_7, hset_8, hpf_s, hcl_s, hai_s, hpi_0, hpi_1, hln_0, hln_1, List.length_cons, List.length_nil, xwr_1, xwr_2, xnew_1, xnew_n, xnew_s, xnew_z, Nat.reduceLT, ite_true, and_self, hp_8_0, hp_8_1, hn_8_1, hp_8_2, hn_8_2, hp_9_0, hp_9_1, hp_9_2, hp_9_3, hp_9_4, hp_9_5, hn_9_5, hp_9_6, hn_9_6, hp_9_7, hn_9_7, hp_10_0, hp_10_1, hp_10_2, hn_10_2, hp_10_3, hn_10_3, hp_11_0, hp_12_0, hn_12_0, hp_12_1, hp_12_2, hp_12_3, hp_12_4, hp_12_5, hn_12_5, hp_12_6, hn_12_6, hp_12_7, hp_12_8, hp_13_0, hn_13_0, hp_13_1, hp_13_2, hp_13_3, hp_14_0, hn_14_0, hp_14_1, hp_14_2, hp_14_3, xdef_8, xdef_9, xdef_10, xdef_11, xdef_12, xdef_13, xdef_14, Gk_v, Gk_n, xcat_nil, xcat_i, xcat_r, xcat_l, xcat_d, Nat.zero_le, Nat.reduceAdd, Nat.reduceLeDiff, true_and, and_true, ykl_i, ykl_r, ykl_n, ykl_l]
  · unfold va_cpy
    rw [pbt_cat]
    by_cases h : i < w.length
    · rw [if_neg (fun q => by omega), if_pos h]
      exact h3 i hi
    · rw [if_neg h]
      by_cases h5 : i < w.length + u.length
      · rw [if_pos ⟨by omega, h5⟩, Nat.zero_add]
        exact t3 _ (by omega)
      · rw [if_neg (fun q => h5 q.2), pbt_hi (show u.length ≤ i - w.length by omega), (h3 i hi).1, pbt_hi (by omega)]
        exact ⟨rfl, by decide⟩
theorem m_170 (S : pSB σ0 c x σ a v w cap) (T : pTy σ s vs u) (hne : vs ≠ v) (hsa : s ≠ a) (hva' : vs ≠ a) (hvl : vs < 1000000 → vs < σ.2.1.1) (hl : w.length + u.length ≤ 89) (hr : σ.2.1.1 + 1 < 900000) : ∃ τ v' cap', Ra (d + 4) 170 [.ref a, .ref s] σ (.inl (some (.ref a))) τ ∧ (pSB σ0 (c + 1) (x + 180) τ a v' (w ++ u) cap' ∧ ((v' = v ∨ σ.2.1.1 ≤ v') ∧ ((∀ b e, σ.1 b = some e → b ≠ a → b ≠ v → τ.1 b = some e) ∧ σ.2.1.1 ≤ τ.2.1.1))) := by
  have Z := S.1.2
  have h2v := S.2.2.2.1
  obtain ⟨σ1, v1, cap1, k1, S1, h3, h4, h5, h6⟩ := m_156 (d := d) S (m := w.length + u.length) hl hr
  have T1 : pTy σ1 s vs u := by
    refine T.keep ?_ (fun b e hb hbs => h5 b e hb (by rcases hbs with rfl | rfl <;> assumption))
    rw [S1.1.1.2.2.2.2, S.1.1.2.2.2.2]
  have hne1 : vs ≠ v1 := by
    rcases h4 with h4 | h4
    · rw [h4]; exact hne
    · have := S1.2.2.1.2.2
      intro q
      have := hvl (by omega)
      omega
  obtain ⟨f', k2, h7⟩ := m_163 (d := d) S1 T1 hne1 (by omega)
  have S2 := S1.set h7 (by rw [List.length_append]; exact h3)
  have hv1a := S1.va
  have o := S.ob
  have o1 := S1.ob
  have b1 := S1.2.2.1.1
  have ha := S.2.1.2
  obtain ⟨σ2, e2⟩ : ∃ σ2, σ2 = xwr σ1 v1 (.inl (1, (cap1, .inl f'))) := ⟨_, rfl⟩
  have b2 : σ2.1 a = some (.inr (14, [.ref v1, .int 0, .int 0, .int (yI w.length)])) := by rw [e2, xwr_1, if_neg (fun q => hv1a q.symm), b1]
  rw [← e2] at k2 S2
  refine ⟨_, v1, cap1, fun Q => ?_, S2, h4, fun b e hb hba hbv => ?_, by rw [e2]; exact h6⟩
  · obtain ⟨g, tl, ⟨t1, t2⟩, t3, t4⟩ := T
    have t1' : xRd σ1 s = some (.inr (13, .ref vs :: .int 0 :: tl)) := by
      obtain ⟨g', tl', ⟨q1, q2⟩, -⟩ := T1
      rcases t4 with ⟨t4, -⟩ | ⟨t4, -⟩
      · rw [xRd_x (by omega) (show σ1.2.2 = σ.2.2 by rw [S1.1.1.2.2.2.2, S.1.1.2.2.2.2])]; exact t1
      · rw [yrd_lt t4] at t1 ⊢
        exact h5 _ _ t1 hsa
    have g217 := m_217g (d := d + 1) ⟨t1, t2⟩
    have a1 : yI w.length + yI u.length = yI (w.length + u.length) := yI_add
    have el : (w ++ u).length = w.length + u.length := List.length_append
    have hs : s < 1000000 ∨ (1000100 ≤ s ∧ s < 1000126) := by
      rcases t4 with ⟨t4, -⟩ | ⟨t4, -⟩
      · exact Or.inr t4
      · exact Or.inl t4
    have o2 : xRd σ2 a = some (.inr (14, [.ref v1, .int 0, .int 0, .int (yI w.length)])) := (yrd_lt ha).trans b2
    have g158 : ∀ Q', Cl (d + 3) 158 [.ref a, .ref s] σ Q' ↔ Q' (.inl (some (.ref a))) (xwr σ2 a (.inr (14, [.ref v1, .int 0, .int 0, .int (yI (w.length + u.length))]))) := by
      intro Q'
      show G (d + 3) 158 0 [some (.ref a), some (.ref s), none] [] σ Q' ↔ _
      simp only [s_158_0, s_158_1n, s_158_1, s_158_2, s_158_4, s_158_5, s_158_6, s_158_7, s_158_8, s_158_9, s_158_10, s_158_11, s_158_12, s_158_13, s_158_14, s_158_15, s_158_16, s_158_17, s_158_18, s_158_19, s_158_20, s_158_20i, s_158_21, s_158_22, s_158_23, s_158_24, s_158_25, s_158_26, hs, t1, t1', g217 _, o, o1, o2, a1, k1 _, k2 _, ha, b2, hgf_s, hsel_0, hsel_1, hsel_2, hsel_3, hsel_4, hsel_5, hsel_6, hsel_7, hsel_8, hset_0, hset_1, hset_2, hset_3, hset_4, hset_5, hset_6, hset_7, hset_8, hpf_s, hcl_s, hai_s, hpi_0, hpi_1, hln_0, hln_1, List.length_cons, List.length_nil, xwr_1, xwr_2, xnew_1, xnew_n, xnew_s, xnew_z, Nat.reduceLT, ite_true, and_self, hp_8_0, hp_8_1, hn_8_1, hp_8_2, hn_8_2, hp_9_0, hp_9_1, hp_9_2, hp_9_3, hp_9_4, hp_9_5, hn_9_5, hp_9_6, hn_9_6, hp_9_7, hn_9_7, hp_10_0, hp_10_1, hp_10_2, hn_10_2, hp_10_3, hn_10_3, hp_11_0, hp_12_0, hn_12_0, hp_12_1, hp_12_2, hp_12_3, hp_12_4, hp_12_5, hn_12_5, hp_12_6, hn_12_6, hp_12_7, hp_12_8, hp_13_0, hn_13_0, hp_13_1, hp_13_2, hp_13_3, hp_14_0, hn_14_0, hp_14_1, hp_14_2, hp_14_3, xdef_8, xdef_9, xdef_10, xdef_11, xdef_12, xdef_13, xdef_14, Gk_v, Gk_n, xcat_nil, xcat_i, xcat_r, xcat_l, xcat_d, Nat.zero_le, Nat.reduceAdd, Nat.reduceLeDiff, true_and, and_true, ykl_i, ykl_r, ykl_n, ykl_l]
    show G (d + 4) 170 0 [some (.ref a), some (.ref s)] [] σ Q ↔ _
    simp only [s_170_0, s_170_1, s_170_2, s_170_3, s_170_3i, s_170_4, s_170_5, o, g158 _, el, hgf_s, hsel_0, hsel_1, hsel_2, hsel_3, hsel_4, hsel_5, hsel_6, hsel_7, hsel_8, hset_0, hset_1, hset_2, hset_3, hset_4, hset_5, hset_6, hset_7, hset_8, hpf_s, hcl_s, hai_s, hpi_0, hpi_1, hln_0, hln_1, List.length_cons, List.length_nil, xwr_1, xwr_2, xnew_1, xnew_n, xnew_s, xnew_z, Nat.reduceLT, ite_true, and_self, hp_8_0, hp_8_1, hn_8_1, hp_8_2, hn_8_2, hp_9_0, hp_9_1, hp_9_2, hp_9_3, hp_9_4, hp_9_5, hn_9_5, hp_9_6, hn_9_6, hp_9_7, hn_9_7, hp_10_0, hp_10_1, hp_10_2, hn_10_2, hp_10_3, hn_10_3, hp_11_0, hp_12_0, hn_12_0, hp_12_1, hp_12_2, hp_12_3, hp_12_4, hp_12_5, hn_12_5, hp_12_6, hn_12_6, hp_12_7, hp_12_8, hp_13_0, hn_13_0, hp_13_1, hp_13_2, hp_13_3, hp_14_0, hn_14_0, hp_14_1, hp_14_2, hp_14_3, xdef_8, xdef_9, xdef_10, xdef_11, xdef_12, xdef_13, xdef_14, Gk_v, Gk_n, xcat_nil, xcat_i, xcat_r, xcat_l, xcat_d, Nat.zero_le, Nat.reduceAdd, Nat.reduceLeDiff, true_and, and_true, ykl_i, ykl_r, ykl_n, ykl_l]
  · have h8 := h5 b e hb hba
    rw [xwr_1, if_neg hba, e2, xwr_1]
    by_cases q : b = v1
    · rcases h4 with h4 | h4
      · exact absurd (q.trans h4) hbv
      · have := pZ_lt Z hb
        omega
    · rw [if_neg q, h8]
end

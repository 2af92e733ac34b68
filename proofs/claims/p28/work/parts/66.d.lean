/-! ===== the law's own strips: what they answer ===== -/
theorem pfold_add {α : Type} {h : Nat → α → α} : ∀ (a b i : Nat) (x : α), yfold h (a + b) i x = yfold h b (i + a) (yfold h a i x) := by
  intro a
  induction a with
  | zero => intro b i x; rw [Nat.zero_add, Nat.add_zero]; rfl
  | succ a ih =>
    intro b i x
    rw [show a + 1 + b = (a + b) + 1 by omega]
    show yfold h (a + b) (i + 1) (h i x) = yfold h b (i + (a + 1)) (yfold h a (i + 1) (h i x))
    rw [ih, show i + 1 + a = i + (a + 1) by omega]
theorem pfold_id {α : Type} {h : Nat → α → α} : ∀ (n i : Nat) (x : α), (∀ j b, i ≤ j → j < i + n → h j b = b) → yfold h n i x = x := by
  intro n
  induction n with
  | zero => intro i x _; rfl
  | succ n ih =>
    intro i x hh
    show yfold h n (i + 1) (h i x) = x
    rw [hh i x (Nat.le_refl _) (by omega)]
    exact ih (i + 1) x (fun j b h1 h2 => hh j b (by omega) (by omega))
theorem pload_eq {D : yD} (hD : yDok D) {g : Nat} (hg : g < D.f) : yfold (fun p a => if yfeed D p = g then (if ylit D p = true then a + ycur D.un (D.tk p) else a) else a) D.n 0 0 = yload D g := by
  have h1 := hD.fpn g hg
  have h2 := ylast_lt hD hg
  have h3 : D.fp g ≤ ylast D g := by
    unfold ylast
    split
    · rename_i h
      have := hD.fpm g h
      omega
    · omega
  rw [show D.n = D.fp g + ((ylast D g + 1 - D.fp g) + (D.n - (ylast D g + 1))) by omega, pfold_add, pfold_add]
  rw [pfold_id (D.fp g) 0 _ (fun p b p1 p2 => ?_), pfold_id (D.n - (ylast D g + 1)) _ _ (fun p b p1 p2 => ?_)]
  · unfold yload
    rw [Nat.zero_add]
    refine yfold_congr _ _ _ (fun p b p1 p2 => ?_)
    rw [if_pos (yfeed_of hD hg p1 (by omega))]
  · refine if_neg (fun q => ?_)
    have := (yfeed_spec hD (p := p) (by omega)).2
    rw [q] at this
    omega
  · refine if_neg (fun q => ?_)
    have := (yfeed_spec hD (p := p) (by omega)).1
    rw [q] at this
    omega
section
variable {d : Nat} {σ : xS} {s : Nat} {R : pR} {D : yD} {cv : Value} {dn en : Int32}
theorem m_125S (S : pS σ s R D cv dn en) {p : Nat} (hp : p < D.n) : Ra d 125 [.ref (R.lm p)] σ (.inl (some (.int (yb (ylit D p))))) σ := m_125 (S.2.2.1 p hp).1 (S.2.2.1 p hp).2
theorem l_138 (S : pS σ s R D cv dn en) (hD : yDok D) {g : Nat} (hg : g < D.f) : ∀ m p a, p + m = D.n → Ga (d + 1) 138 4 [some (.ref s), some (.int (yI g)), some (.int a), some (.int (yI p))] [] σ (.inl (some (.int (yfold (fun p a => if yfeed D p = g then (if ylit D p = true then a + ycur D.un (D.tk p) else a) else a) m p a)))) σ := by
  obtain ⟨gg, e1, e2⟩ := S.lrow
  have hf6 := hD.f6
  have hn40 := hD.n40
  intro m
  induction m with
  | zero =>
    intro p a hp Q
    have h1 : yI D.n ≤ yI p := (yI_le (by omega) (by omega)).mpr (by omega)
    rw [s_138_4]
    simp only [s_138_0, s_138_1, s_138_2, s_138_3, s_138_5, s_138_6, s_138_7, s_138_8, s_138_9, s_138_10, s_138_11, s_138_12, s_138_13, s_138_14, s_138_15, s_138_16, s_138_17, s_138_18, s_138_19, s_138_20, s_138_21, s_138_22, s_138_23, s_138_24, s_138_25, s_138_26, s_138_27, s_138_28, s_138_29, s_138_30, s_138_31, s_138_32, s_138_33, S.ob, e1, hln_r S.lr0 (show 4 ≤ 6 ∧ 6 ≤ 8 by decide), h1, if_true, yfold, hgf_s, hsel_0, hsel_1, hsel_2, hsel_3, hsel_4, hsel_5, hsel_6, hsel_7, hsel_8, hset_0, hset_1, hset_2, hset_3, hset_4, hset_5, hset_6, hset_7, hset_8, hpf_s, hcl_s, hai_s, hpi_0, hpi_1, hln_0, hln_1, List.length_cons, List.length_nil, xwr_1, xwr_2, xnew_1, xnew_n, xnew_s, xnew_z, Nat.reduceLT, ite_true, and_self, hp_8_0, hp_8_1, hn_8_1, hp_8_2, hn_8_2, hp_9_0, hp_9_1, hp_9_2, hp_9_3, hp_9_4, hp_9_5, hn_9_5, hp_9_6, hn_9_6, hp_9_7, hn_9_7, hp_10_0, hp_10_1, hp_10_2, hn_10_2, hp_10_3, hn_10_3, hp_11_0, hp_12_0, hn_12_0, hp_12_1, hp_12_2, hp_12_3, hp_12_4, hp_12_5, hn_12_5, hp_12_6, hn_12_6, hp_12_7, hp_12_8, hp_13_0, hn_13_0, hp_13_1, hp_13_2, hp_13_3, hp_14_0, hn_14_0, hp_14_1, hp_14_2, hp_14_3, xdef_8, xdef_9, xdef_10, xdef_11, xdef_12, xdef_13, xdef_14, Gk_v, Gk_n, xcat_nil, xcat_i, xcat_r, xcat_l, xcat_d, Nat.zero_le, Nat.reduceAdd, Nat.reduceLeDiff, true_and, and_true, ykl_i, ykl_r, ykl_n, ykl_l]
  | succ m ih =>
    intro p a hp Q
    have hpn : p < D.n := by omega
    have h1 : ¬ yI D.n ≤ yI p := fun h => absurd ((yI_le (by omega) (by omega)).mp h) (by omega)
    have h2 : yix (yI p) D.n := yix_I (by omega) (by omega)
    have h3 : (yI p).toNatClampNeg = p := yI_clamp (by omega)
    have h4 : yI p + 1 = yI (p + 1) := yI_add
    have hfe := yfeed_lt hD p
    have h5 : yI (yfeed D p) = yI g ↔ yfeed D p = g := yI_inj (by omega) (by omega)
    have g1 := m_136 (d := d) S hD (p := p) (by omega)
    have g2 := m_125S (d := d) S hpn
    have g3 := m_137 (d := d) S (S.tk hpn).1
    have l0 := S.lm0 hpn
    have l1 := S.lm1 hpn
    rw [s_138_4]
    simp only [s_138_0, s_138_1, s_138_2, s_138_3, s_138_5, s_138_6, s_138_7, s_138_8, s_138_9, s_138_10, s_138_11, s_138_12, s_138_13, s_138_14, s_138_15, s_138_16, s_138_17, s_138_18, s_138_19, s_138_20, s_138_21, s_138_22, s_138_23, s_138_24, s_138_25, s_138_26, s_138_27, s_138_28, s_138_29, s_138_30, s_138_31, s_138_32, s_138_33, S.ob, e1, e2 p hpn, l0, l1, hln_r S.lr0 (show 4 ≤ 6 ∧ 6 ≤ 8 by decide), haa_t S.lr0 (show 4 ≤ 6 ∧ 6 ≤ 8 by decide), h1, h2, h3, h4, h5, hop_s, g1 _, g2 _, g3 _, plamp, ne_eq, if_false, yfold, hgf_s, hsel_0, hsel_1, hsel_2, hsel_3, hsel_4, hsel_5, hsel_6, hsel_7, hsel_8, hset_0, hset_1, hset_2, hset_3, hset_4, hset_5, hset_6, hset_7, hset_8, hpf_s, hcl_s, hai_s, hpi_0, hpi_1, hln_0, hln_1, List.length_cons, List.length_nil, xwr_1, xwr_2, xnew_1, xnew_n, xnew_s, xnew_z, Nat.reduceLT, ite_true, and_self, hp_8_0, hp_8_1, hn_8_1, hp_8_2, hn_8_2, hp_9_0, hp_9_1, hp_9_2, hp_9_3, hp_9_4, hp_9_5, hn_9_5, hp_9_6, hn_9_6, hp_9_7, hn_9_7, hp_10_0, hp_10_1, hp_10_2, hn_10_2, hp_10_3, hn_10_3, hp_11_0, hp_12_0, hn_12_0, hp_12_1, hp_12_2, hp_12_3, hp_12_4, hp_12_5, hn_12_5, hp_12_6, hn_12_6, hp_12_7, hp_12_8, hp_13_0, hn_13_0, hp_13_1, hp_13_2, hp_13_3, hp_14_0, hn_14_0, hp_14_1, hp_14_2, hp_14_3, xdef_8, xdef_9, xdef_10, xdef_11, xdef_12, xdef_13, xdef_14, Gk_v, Gk_n, xcat_nil, xcat_i, xcat_r, xcat_l, xcat_d, Nat.zero_le, Nat.reduceAdd, Nat.reduceLeDiff, true_and, and_true, ykl_i, ykl_r, ykl_n, ykl_l]
    by_cases hc : yfeed D p = g
    · cases hb : ylit D p
      · simp only [hc, not_true_eq_false, if_false, if_true, yb, Bool.false_eq_true]
        exact ih (p + 1) a (by omega) Q
      · have hz : ¬ (1 : Int32) = 0 := by decide
        simp only [hc, not_true_eq_false, if_false, if_true, yb, hz]
        exact ih (p + 1) _ (by omega) Q
    · simp only [hc, not_false_eq_true, if_false, if_true]
      exact ih (p + 1) a (by omega) Q
theorem m_138 (S : pS σ s R D cv dn en) (hD : yDok D) {g : Nat} (hg : g < D.f) : Ra (d + 1) 138 [.ref s, .int (yI g)] σ (.inl (some (.int (yload D g)))) σ := by
  intro Q
  have h := l_138 (d := d) S hD hg D.n 0 0 (by omega) Q
  rw [pload_eq hD hg] at h
  show G (d + 1) 138 0 [some (.ref s), some (.int (yI g)), none, none] [] σ Q ↔ _
  simp only [s_138_0, s_138_1, s_138_2, s_138_3, Gk_v, Gk_n, xcat_nil, xcat_i, xcat_r, xcat_l, xcat_d, Nat.zero_le, Nat.reduceAdd, Nat.reduceLeDiff, true_and, and_true, ykl_i, ykl_r, ykl_n, ykl_l]
  exact h
end

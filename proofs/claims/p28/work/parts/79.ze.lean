/-! ===== texts are built: numbers, texts taken ===== -/
theorem hcn_1 {n : Nat} {f : Nat → Int32} {F : xE → Nat → Prop} : hcn 1 (some (.inl (1, (n, .inl f)))) F ↔ (n ≤ 100000 ∧ xfitB f 0 n = true) ∧ F (.inl (1, (n, .inl f))) n := by
  unfold hcn
  simp
theorem hck_1 {n : Nat} {f : Nat → Int32} : hck 1 (some (.inl (1, (n, .inl f)))) ↔ True := by
  unfold hck
  simp
theorem xRd_d0 {σ : xS} : xRd σ 1000006 = some (.inl (1, (100, .inl (xdig 0)))) := by
  unfold xRd xExt
  rw [if_neg (by decide), if_neg (by decide), if_neg (by decide), if_neg (by decide), if_neg (by decide), if_pos (by decide)]
theorem xRd_d1 {σ : xS} : xRd σ 1000007 = some (.inl (1, (100, .inl (xdig 1)))) := by
  unfold xRd xExt
  rw [if_neg (by decide), if_neg (by decide), if_neg (by decide), if_neg (by decide), if_neg (by decide), if_pos (by decide)]
theorem pdig : ∀ j, j < 100 → vp_nar .byte (xdig 0 j) = yI (48 + j % 10) ∧ vp_nar .byte (xdig 1 j) = yI (48 + j / 10) := by decide
theorem yI_dec {k : Nat} (h : 1 ≤ k) : yI k + (-1) = yI (k - 1) := by
  have e : yI k = yI (k - 1) + 1 := by
    have h2 : yI (k - 1) + 1 = yI (k - 1 + 1) := yI_add
    rw [h2]
    exact congrArg yI (by omega)
  rw [e]
  grind
section
variable {d : Nat} {σ0 σ τ : xS} {c x a v cap s vs : Nat} {w u : List Nat} {f : Nat → Int32}
theorem l_165 {n : Nat} (hn : n < 10000) : ∀ m k, k + m = pdn n + 1 → 1 ≤ k → Ga d 165 13 [some (.int (-(yI n))), some (.int 0), some (.int (-(yI (10 ^ k)))), some (.int (yI k))] [] σ (.inl (some (.int (yI (pdn n + 1))))) σ := by
  have h3 := pdn_le (n := n)
  intro m
  induction m with
  | zero =>
    intro k hk h1 Q
    have hlt : n < 10 ^ k := (pdn_lt hn h1 (by omega)).mpr (by omega)
    have hp : 10 ^ k ≤ 10 ^ 4 := Nat.pow_le_pow_right (by decide) (by omega)
    have z1 : ¬ (10 : Int32) ≤ yI k := fun g => by
      have := (yI_le (n := 10) (by decide) (by omega)).mp g
      omega
    have z2 : ¬ -(yI n) ≤ -(yI (10 ^ k)) := fun g => by
      have := (yN_le (by omega) (by omega)).mp g
      omega
    have a1 : yI k + 0 = yI (pdn n + 1) := by rw [Int32.add_zero]; exact congrArg yI (by omega)
    rw [s_165_13]
    simp only [s_165_14, s_165_15, s_165_16, s_165_17, s_165_18, s_165_19, s_165_20, s_165_21, s_165_22, z1, z2, a1, if_false]
  | succ m ih =>
    intro k hk h1 Q
    have hlt : ¬ n < 10 ^ k := fun g => by
      have := (pdn_lt hn h1 (by omega)).mp g
      omega
    have hp : 10 ^ k ≤ 10 ^ 4 := Nat.pow_le_pow_right (by decide) (by omega)
    have z1 : ¬ (10 : Int32) ≤ yI k := fun g => by
      have := (yI_le (n := 10) (by decide) (by omega)).mp g
      omega
    have z2 : -(yI n) ≤ -(yI (10 ^ k)) := (yN_le (by omega) (by omega)).mpr (by omega)
    have a1 : yI k + 1 = yI (k + 1) := yI_add
    have a2 : (10 : Int32) * -(yI (10 ^ k)) = -(yI (10 ^ (k + 1))) := by
      have e : yI (10 ^ (k + 1)) = yI (10 ^ k) * 10 := by rw [Nat.pow_succ]; exact (yI_mul (m := 10)).symm
      rw [e]
      grind
    refine Iff.trans ?_ (ih (k + 1) (by omega) (by omega) Q)
    rw [s_165_13]
    simp only [s_165_14, s_165_15, s_165_16, s_165_17, s_165_18, s_165_23, s_165_24, s_165_25, s_165_26, s_165_27, s_165_28, z1, z2, a1, a2, if_true, if_false, Gk_v, Gk_n, xcat_nil, xcat_i, xcat_r, xcat_l, xcat_d, Nat.zero_le, Nat.reduceAdd, Nat.reduceLeDiff, true_and, and_true, ykl_i, ykl_r, ykl_n, ykl_l]
theorem m_165 {n : Nat} (hn : n < 10000) : Ra d 165 [.int (yI n)] σ (.inl (some (.int (yI (pdn n + 1))))) σ := by
  intro Q
  have g := l_165 (d := d) (σ := σ) hn (pdn n) 1 (by omega) (Nat.le_refl _) Q
  have z : ¬ yI n < 0 := yI_nneg (by omega)
  show G d 165 0 [some (.int (yI n)), none, none, none] [] σ Q ↔ _
  refine Iff.trans ?_ g
  simp only [s_165_0, s_165_1, s_165_2, s_165_3, s_165_4, s_165_5, s_165_6, s_165_7, s_165_8, s_165_9, s_165_10, s_165_11, s_165_12, z, if_false, Gk_v, Gk_n, xcat_nil, xcat_i, xcat_r, xcat_l, xcat_d, Nat.zero_le, Nat.reduceAdd, Nat.reduceLeDiff, true_and, and_true, ykl_i, ykl_r, ykl_n, ykl_l]
  exact Iff.rfl
/-- the last one or two digits -/
theorem l_164b {m p : Nat} {l3 l4 : Option Value} (hm : m < 100) (hp : pdn m + 1 ≤ p) (hpc : p ≤ cap) (hc : cap < 1000) (hv : v < 1000000) (h : σ.1 v = some (.inl (1, (cap, .inl f)))) {l1 : Option Value} : ∃ f', Ga d 164 13 [some (.int (-(yI m))), l1, some (.ref v), l3, l4, some (.int (yI p)), some (.int 0)] [] σ (.inl (some (.int (yI (p - (pdn m + 1)))))) (xwr σ v (.inl (1, (cap, .inl f')))) ∧ ∀ i, f' i = if p - (pdn m + 1) ≤ i ∧ i < p then yI (pbt (pdec m) (i - (p - (pdn m + 1)))) else f i := by
  have z1 : (-100 : Int32) < -(yI m) := (yN_lt (n := 100) (by decide) (by omega)).mpr hm
  have a1 : yI p + (-1) = yI (p - 1) := yI_dec (by omega)
  have a2 : - -(yI m) = yI m := Int32.neg_neg
  have i1 : yix (yI (p - 1)) cap := yix_I (by omega) (by omega)
  have c1 : (yI (p - 1)).toNatClampNeg = p - 1 := yI_clamp (by omega)
  have i2 : yix (yI m) 100 := yix_I (by omega) (by omega)
  have c2 : (yI m).toNatClampNeg = m := yI_clamp (by omega)
  obtain ⟨d0, d1⟩ := pdig m hm
  by_cases h10 : m < 10
  · have e0 : pdn m = 0 := by unfold pdn; rw [if_pos h10]
    have z2 : (-9 : Int32) ≤ -(yI m) := (yN_le (n := 9) (by decide) (by omega)).mpr (by omega)
    refine ⟨upd f (p - 1) (yI (48 + m % 10)), fun Q => ?_, fun i => ?_⟩
    · rw [s_164_13, e0]
      simp only [s_164_14, s_164_15, s_164_43, s_164_44, s_164_45, s_164_46, s_164_47, s_164_48, s_164_49, s_164_50, s_164_51, s_164_52, s_164_53, s_164_62, s_164_63, s_164_69, s_164_70, z1, a1, a2, i1, c1, i2, c2, d0, z2, h, hv, xRd_d0, hpi_1, if_true, hgf_s, hsel_0, hsel_1, hsel_2, hsel_3, hsel_4, hsel_5, hsel_6, hsel_7, hsel_8, hset_0, hset_1, hset_2, hset_3, hset_4, hset_5, hset_6, hset_7, hset_8, hpf_s, hcl_s, hai_s, hpi_0, hpi_1, hln_0, hln_1, List.length_cons, List.length_nil, xwr_1, xwr_2, xnew_1, xnew_n, xnew_s, xnew_z, Nat.reduceLT, ite_true, and_self, hp_8_0, hp_8_1, hn_8_1, hp_8_2, hn_8_2, hp_9_0, hp_9_1, hp_9_2, hp_9_3, hp_9_4, hp_9_5, hn_9_5, hp_9_6, hn_9_6, hp_9_7, hn_9_7, hp_10_0, hp_10_1, hp_10_2, hn_10_2, hp_10_3, hn_10_3, hp_11_0, hp_12_0, hn_12_0, hp_12_1, hp_12_2, hp_12_3, hp_12_4, hp_12_5, hn_12_5, hp_12_6, hn_12_6, hp_12_7, hp_12_8, hp_13_0, hn_13_0, hp_13_1, hp_13_2, hp_13_3, hp_14_0, hn_14_0, hp_14_1, hp_14_2, hp_14_3, xdef_8, xdef_9, xdef_10, xdef_11, xdef_12, xdef_13, xdef_14, Gk_v, Gk_n, xcat_nil, xcat_i, xcat_r, xcat_l, xcat_d, Nat.zero_le, Nat.reduceAdd, Nat.reduceLeDiff, true_and, and_true, ykl_i, ykl_r, ykl_n, ykl_l]
    · rw [e0]
      unfold pdec
      rw [e0]
      unfold upd
      by_cases hi : i = p - 1
      · subst hi
        rw [if_pos rfl, if_pos ⟨Nat.le_refl _, by omega⟩, Nat.sub_self]
        show _ = yI (48 + m / 1 % 10)
        rw [Nat.div_one]
      · rw [if_neg hi, if_neg (by omega)]
  · have e0 : pdn m = 1 := by unfold pdn; rw [if_neg h10, if_pos hm]
    rw [e0] at hp
    have z2 : ¬ (-9 : Int32) ≤ -(yI m) := fun g => by
      have := (yN_le (n := 9) (by decide) (by omega)).mp g
      omega
    have a3 : yI (p - 1) + (-1) = yI (p - 2) := by rw [yI_dec (by omega)]; exact congrArg yI (by omega)
    have i3 : yix (yI (p - 2)) cap := yix_I (by omega) (by omega)
    have c3 : (yI (p - 2)).toNatClampNeg = p - 2 := yI_clamp (by omega)
    refine ⟨upd (upd f (p - 1) (yI (48 + m % 10))) (p - 2) (yI (48 + m / 10)), fun Q => ?_, fun i => ?_⟩
    · rw [s_164_13, e0]
      simp only [s_164_14, s_164_15, s_164_43, s_164_44, s_164_45, s_164_46, s_164_47, s_164_48, s_164_49, s_164_50, s_164_51, s_164_52, s_164_53, s_164_54, s_164_55, s_164_56, s_164_57, s_164_58, s_164_59, s_164_60, s_164_61, s_164_62, s_164_63, s_164_69, s_164_70, z1, a1, a2, a3, i1, c1, i2, c2, i3, c3, d0, d1, z2, h, hv, xRd_d0, xRd_d1, hpi_1, pwr_at, pwr_wr, if_true, if_false, hgf_s, hsel_0, hsel_1, hsel_2, hsel_3, hsel_4, hsel_5, hsel_6, hsel_7, hsel_8, hset_0, hset_1, hset_2, hset_3, hset_4, hset_5, hset_6, hset_7, hset_8, hpf_s, hcl_s, hai_s, hpi_0, hpi_1, hln_0, hln_1, List.length_cons, List.length_nil, xwr_1, xwr_2, xnew_1, xnew_n, xnew_s, xnew_z, Nat.reduceLT, ite_true, and_self, hp_8_0, hp_8_1, hn_8_1, hp_8_2, hn_8_2, hp_9_0, hp_9_1, hp_9_2, hp_9_3, hp_9_4, hp_9_5, hn_9_5, hp_9_6, hn_9_6, hp_9_7, hn_9_7, hp_10_0, hp_10_1, hp_10_2, hn_10_2, hp_10_3, hn_10_3, hp_11_0, hp_12_0, hn_12_0, hp_12_1, hp_12_2, hp_12_3, hp_12_4, hp_12_5, hn_12_5, hp_12_6, hn_12_6, hp_12_7, hp_12_8, hp_13_0, hn_13_0, hp_13_1, hp_13_2, hp_13_3, hp_14_0, hn_14_0, hp_14_1, hp_14_2, hp_14_3, xdef_8, xdef_9, xdef_10, xdef_11, xdef_12, xdef_13, xdef_14, Gk_v, Gk_n, xcat_nil, xcat_i, xcat_r, xcat_l, xcat_d, Nat.zero_le, Nat.reduceAdd, Nat.reduceLeDiff, true_and, and_true, ykl_i, ykl_r, ykl_n, ykl_l]
    · rw [e0]
      unfold pdec
      rw [e0]
      unfold upd
      by_cases hi : i = p - 2
      · subst hi
        rw [if_pos rfl, if_pos ⟨Nat.le_refl _, by omega⟩, Nat.sub_self]
        show _ = yI (48 + m / 10 % 10)
        exact congrArg yI (by omega)
      · rw [if_neg hi]
        by_cases hi1 : i = p - 1
        · subst hi1
          rw [if_pos rfl, if_pos ⟨by omega, by omega⟩, show p - 1 - (p - (1 + 1)) = 1 by omega]
          show _ = yI (48 + m / 1 % 10)
          rw [Nat.div_one]
        · rw [if_neg hi1, if_neg (by omega)]
theorem m_164 {n k : Nat} (hn : n < 10000) (hk : k + (pdn n + 1) ≤ cap) (hc : cap < 1000) (hv : v < 1000000) (h : σ.1 v = some (.inl (1, (cap, .inl f)))) : ∃ f', Ra d 164 [.int (yI n), .int (yI (k + (pdn n + 1))), .ref v] σ (.inl (some (.int (yI k)))) (xwr σ v (.inl (1, (cap, .inl f')))) ∧ ∀ i, f' i = if k ≤ i ∧ i < k + (pdn n + 1) then yI (pbt (pdec n) (i - k)) else f i := by
  have z0 : (0 : Int32) ≤ yI n := Int32.not_lt.mp (yI_nneg (by omega))
  have st : ∀ Q, G d 164 0 [some (.int (yI n)), some (.int (yI (k + (pdn n + 1)))), some (.ref v), none, none, none, none] [] σ Q ↔ G d 164 13 [some (.int (-(yI n))), some (.int (yI (k + (pdn n + 1)))), some (.ref v), none, none, some (.int (yI (k + (pdn n + 1)))), some (.int 0)] [] σ Q := by
    intro Q
    simp only [s_164_0, s_164_1, s_164_2, s_164_3, s_164_4, s_164_5, s_164_6, s_164_7, s_164_8, s_164_9, s_164_10, s_164_11, s_164_12, z0, ne_eq, not_true_eq_false, if_true, if_false, Gk_v, Gk_n, xcat_nil, xcat_i, xcat_r, xcat_l, xcat_d, Nat.zero_le, Nat.reduceAdd, Nat.reduceLeDiff, true_and, and_true, ykl_i, ykl_r, ykl_n, ykl_l]
  by_cases h100 : n < 100
  · obtain ⟨f', k1, k2⟩ := l_164b (d := d) (m := n) (p := k + (pdn n + 1)) (l3 := none) (l4 := none) (l1 := some (.int (yI (k + (pdn n + 1))))) h100 (by omega) hk hc hv h
    rw [Nat.add_sub_cancel] at k1 k2
    exact ⟨f', fun Q => (st Q).trans (k1 Q), k2⟩
  · have z1 : ¬ (-100 : Int32) < -(yI n) := fun g => h100 ((yN_lt (n := 100) (by decide) (by omega)).mp g)
    obtain ⟨p, hp⟩ : ∃ p, p = k + (pdn n + 1) := ⟨_, rfl⟩
    have e9 : pdn n = pdn (n / 100) + 2 := by
      unfold pdn
      rw [if_neg (by omega), if_neg h100]
      by_cases h3 : n < 1000
      · rw [if_pos h3, if_pos (by omega)]
      · rw [if_neg h3, if_neg (by omega), if_pos (by omega)]
    have n100 : ¬ (100 : Int32) = 0 := by decide
    have a0 : -(yI n) / 100 = -(yI (n / 100)) := yN_div (by omega)
    have a1 : -(yI (n / 100)) * 100 - -(yI n) = yI (n % 100) := yN_mod
    have a2 : yI p + (-1) = yI (p - 1) := yI_dec (by omega)
    have a3 : yI (p - 1) + (-1) = yI (p - 2) := by rw [yI_dec (by omega)]; exact congrArg yI (by omega)
    have i1 : yix (yI (p - 1)) cap := yix_I (by omega) (by omega)
    have c1 : (yI (p - 1)).toNatClampNeg = p - 1 := yI_clamp (by omega)
    have i3 : yix (yI (p - 2)) cap := yix_I (by omega) (by omega)
    have c3 : (yI (p - 2)).toNatClampNeg = p - 2 := yI_clamp (by omega)
    have i2 : yix (yI (n % 100)) 100 := yix_I (by omega) (by omega)
    have c2 : (yI (n % 100)).toNatClampNeg = n % 100 := yI_clamp (by omega)
    obtain ⟨d0, d1⟩ := pdig (n % 100) (Nat.mod_lt _ (by decide))
    have hσ1 : (xwr σ v (.inl (1, (cap, .inl (upd (upd f (p - 1) (yI (48 + n % 100 % 10))) (p - 2) (yI (48 + n % 100 / 10))))))).1 v = some (.inl (1, (cap, .inl (upd (upd f (p - 1) (yI (48 + n % 100 % 10))) (p - 2) (yI (48 + n % 100 / 10)))))) := pwr_at
    obtain ⟨f', k1, k2⟩ := l_164b (d := d) (m := n / 100) (p := p - 2) (l3 := some (.int (-(yI (n / 100))))) (l4 := some (.int (yI (n % 100)))) (l1 := some (.int (yI p))) (by omega) (by omega) (by omega) hc hv hσ1
    rw [show p - 2 - (pdn (n / 100) + 1) = k by omega] at k1 k2
    refine ⟨f', fun Q => ?_, fun i => ?_⟩
    · show G d 164 0 [some (.int (yI n)), some (.int (yI (k + (pdn n + 1)))), some (.ref v), none, none, none, none] [] σ Q ↔ _
      refine (st Q).trans ?_
      rw [← hp]
      have k3 := k1 Q
      rw [pwr_wr] at k3
      refine Iff.trans ?_ k3
      rw [s_164_13]
      simp only [s_164_14, s_164_15, s_164_16, s_164_17, s_164_19, s_164_20, s_164_21, s_164_22, s_164_23, s_164_24, s_164_25, s_164_26, s_164_27, s_164_28, s_164_29, s_164_30, s_164_31, s_164_32, s_164_33, s_164_34, s_164_35, s_164_36, s_164_37, s_164_38, s_164_39, s_164_40, s_164_41, s_164_42, s_164_18 n100, z1, a0, a1, a2, a3, i1, c1, i2, c2, i3, c3, d0, d1, h, hv, xRd_d0, xRd_d1, hpi_1, pwr_at, pwr_wr, if_false, hgf_s, hsel_0, hsel_1, hsel_2, hsel_3, hsel_4, hsel_5, hsel_6, hsel_7, hsel_8, hset_0, hset_1, hset_2, hset_3, hset_4, hset_5, hset_6, hset_7, hset_8, hpf_s, hcl_s, hai_s, hpi_0, hpi_1, hln_0, hln_1, List.length_cons, List.length_nil, xwr_1, xwr_2, xnew_1, xnew_n, xnew_s, xnew_z, Nat.reduceLT, ite_true, and_self, hp_8_0, hp_8_1, hn_8_1, hp_8_2, hn_8_2, hp_9_0, hp_9_1, hp_9_2, hp_9_3, hp_9_4, hp_9_5, hn_9_5, hp_9_6, hn_9_6, hp_9_7, hn_9_7, hp_10_0, hp_10_1, hp_10_2, hn_10_2, hp_10_3, hn_10_3, hp_11_0, hp_12_0, hn_12_0, hp_12_1, hp_12_2, hp_12_3, hp_12_4, hp_12_5, hn_12_5, hp_12_6, hn_12_6, hp_12_7, hp_12_8, hp_13_0, hn_13_0, hp_13_1, hp_13_2, hp_13_3, hp_14_0, hn_14_0, hp_14_1, hp_14_2, hp_14_3, xdef_8, xdef_9, xdef_10, xdef_11, xdef_12, xdef_13, xdef_14, Gk_v, Gk_n, xcat_nil, xcat_i, xcat_r, xcat_l, xcat_d, Nat.zero_le, Nat.reduceAdd, Nat.reduceLeDiff, true_and, and_true, ykl_i, ykl_r, ykl_n, ykl_l]
    · rw [k2 i, ← hp]
      have ed : pdec n = pdec (n / 100) ++ [48 + n % 100 / 10, 48 + n % 100 % 10] := by
        unfold pdec
        rw [e9]
        have h1 : ∀ m q, pdg (m + 2) q = pdg m (q / 100) ++ [48 + q % 100 / 10, 48 + q % 100 % 10] := by
          intro m
          induction m with
          | zero =>
            intro q
            show [48 + q / 100 % 10, 48 + q / 10 % 10, 48 + q / 1 % 10] = [48 + q / 100 / 1 % 10, 48 + q % 100 / 10, 48 + q % 100 % 10]
            rw [show q / 10 % 10 = q % 100 / 10 by omega, show q / 1 % 10 = q % 100 % 10 by omega, Nat.div_one]
          | succ m ih =>
            intro q
            show (48 + q / 10 ^ (m + 3) % 10) :: pdg (m + 2) q = (48 + q / 100 / 10 ^ (m + 1) % 10) :: (pdg m (q / 100) ++ _)
            rw [ih q, Nat.div_div_eq_div_mul, show 100 * 10 ^ (m + 1) = 10 ^ (m + 3) by rw [Nat.pow_add 10 m 3, Nat.pow_add 10 m 1]; omega]
        exact h1 _ _
      have hlen : (pdec (n / 100)).length = pdn (n / 100) + 1 := by unfold pdec; rw [pdg_len]
      rw [ed]
      by_cases q1 : k ≤ i ∧ i < p - 2
      · rw [if_pos q1, if_pos ⟨q1.1, by omega⟩, pbt_cat, if_pos (by rw [hlen]; omega)]
      · rw [if_neg q1]
        unfold upd
        by_cases q2 : i = p - 2
        · rw [if_pos q2, if_pos ⟨by omega, by omega⟩, pbt_cat, if_neg (by rw [hlen]; omega), hlen, show i - k - (pdn (n / 100) + 1) = 0 by omega]
          rfl
        · rw [if_neg q2]
          by_cases q3 : i = p - 1
          · rw [if_pos q3, if_pos ⟨by omega, by omega⟩, pbt_cat, if_neg (by rw [hlen]; omega), hlen, show i - k - (pdn (n / 100) + 1) = 1 by omega]
            rfl
          · rw [if_neg q3, if_neg (by omega)]
theorem pdg_128 {n : Nat} : ∀ m i, pbt (pdg m n) i < 128 := by
  intro m
  induction m with
  | zero =>
    intro i
    cases i with
    | zero => show 48 + n / 1 % 10 < 128; omega
    | succ i => rw [pbt_hi (by show 1 ≤ i + 1; omega)]; decide
  | succ m ih =>
    intro i
    cases i with
    | zero => show 48 + n / 10 ^ (m + 1) % 10 < 128; omega
    | succ i => exact ih i
theorem m_171 (S : pSB σ0 c x σ a v w cap) {n : Nat} (hn : n < 10000) (hl : w.length + 4 ≤ 89) (hr : σ.2.1.1 + 1 < 900000) : ∃ τ v' cap', Ra (d + 4) 171 [.ref a, .int (yI n)] σ (.inl (some (.ref a))) τ ∧ (pSB σ0 (c + 1) (x + 180) τ a v' (w ++ pdec n) cap' ∧ ((v' = v ∨ σ.2.1.1 ≤ v') ∧ ((∀ b e, σ.1 b = some e → b ≠ a → b ≠ v → τ.1 b = some e) ∧ σ.2.1.1 ≤ τ.2.1.1))) := by
  have Z := S.1.2
  have h3 := pdn_le (n := n)
  obtain ⟨σ1, v1, cap1, k1, S1, hc1, h4, h5, h6⟩ := m_156 (d := d) S (m := w.length + (pdn n + 1)) (by omega) hr
  obtain ⟨f1, g1, g2⟩ := S1.2.2.2.1
  have hv1 := S1.2.2.1.2.2
  have hcap1 := S1.2.2.2.2.2
  have elen : (pdec n).length = pdn n + 1 := by unfold pdec; rw [pdg_len]
  obtain ⟨f', k2, h7⟩ := m_164 (d := d + 2) (k := w.length) hn hc1 (by omega) hv1 g1
  have S2 := S1.set (u := pdec n) (f' := f') (fun i hi => by
    rw [h7 i, pbt_cat]
    by_cases q : i < w.length
    · rw [if_neg (by omega), if_pos q, (g2 i hi).1]
      exact ⟨rfl, (g2 i hi).2⟩
    · rw [if_neg q]
      by_cases q2 : i < w.length + (pdn n + 1)
      · rw [if_pos ⟨by omega, q2⟩]
        exact ⟨rfl, by unfold pdec; exact pdg_128 _ _⟩
      · rw [if_neg (fun g => q2 g.2), (g2 i hi).1, pbt_hi (show w.length ≤ i by omega), pbt_hi (by rw [elen]; omega)]
        exact ⟨rfl, by decide⟩) (by rw [List.length_append, elen]; exact hc1)
  have hv1a := S1.va
  have o := S.ob
  have o1 := S1.ob
  have b1 := S1.2.2.1.1
  have ha := S.2.1.2
  obtain ⟨σ2, e2⟩ : ∃ σ2, σ2 = xwr σ1 v1 (.inl (1, (cap1, .inl f'))) := ⟨_, rfl⟩
  have b2 : σ2.1 a = some (.inr (14, [.ref v1, .int 0, .int 0, .int (yI w.length)])) := by rw [e2, xwr_1, if_neg (fun q => hv1a q.symm), b1]
  rw [← e2] at k2 S2
  refine ⟨_, v1, cap1, fun Q => ?_, S2, h4, fun b e hb hba hbv => ?_, by rw [e2]; exact h6⟩
  · have a1 : yI w.length + yI (pdn n + 1) = yI (w.length + (pdn n + 1)) := yI_add
    have el : (w ++ pdec n).length = w.length + (pdn n + 1) := by rw [List.length_append, elen]
    have o2 : xRd σ2 a = some (.inr (14, [.ref v1, .int 0, .int 0, .int (yI w.length)])) := (yrd_lt ha).trans b2
    have h1 : ¬ (1 : Int32) = 0 := by decide
    have g159 : ∀ Q', Cl (d + 3) 159 [.ref a, .int (yI n)] σ Q' ↔ Q' (.inl (some (.ref a))) (xwr σ2 a (.inr (14, [.ref v1, .int 0, .int 0, .int (yI (w.length + (pdn n + 1)))]))) := by
      intro Q'
      show G (d + 3) 159 0 [some (.ref a), some (.int (yI n)), none, none] [] σ Q' ↔ _
      simp only [s_159_0, s_159_1, s_159_2, s_159_3, s_159_4, s_159_5, s_159_6, s_159_7, s_159_8, s_159_9, s_159_10, s_159_11, s_159_12, s_159_13, s_159_14, s_159_15, s_159_16, s_159_17, s_159_18, s_159_19i, s_159_20, s_159_28, s_159_29, s_159_30, s_159_31, s_159_32, o, o1, o2, a1, h1, m_165 hn _, k1 _, k2 _, m_161 S1 _, ha, b2, if_false, hgf_s, hsel_0, hsel_1, hsel_2, hsel_3, hsel_4, hsel_5, hsel_6, hsel_7, hsel_8, hset_0, hset_1, hset_2, hset_3, hset_4, hset_5, hset_6, hset_7, hset_8, hpf_s, hcl_s, hai_s, hpi_0, hpi_1, hln_0, hln_1, List.length_cons, List.length_nil, xwr_1, xwr_2, xnew_1, xnew_n, xnew_s, xnew_z, Nat.reduceLT, ite_true, and_self, hp_8_0, hp_8_1, hn_8_1, hp_8_2, hn_8_2, hp_9_0, hp_9_1, hp_9_2, hp_9_3, hp_9_4, hp_9_5, hn_9_5, hp_9_6, hn_9_6, hp_9_7, hn_9_7, hp_10_0, hp_10_1, hp_10_2, hn_10_2, hp_10_3, hn_10_3, hp_11_0, hp_12_0, hn_12_0, hp_12_1, hp_12_2, hp_12_3, hp_12_4, hp_12_5, hn_12_5, hp_12_6, hn_12_6, hp_12_7, hp_12_8, hp_13_0, hn_13_0, hp_13_1, hp_13_2, hp_13_3, hp_14_0, hn_14_0, hp_14_1, hp_14_2, hp_14_3, xdef_8, xdef_9, xdef_10, xdef_11, xdef_12, xdef_13, xdef_14, Gk_v, Gk_n, xcat_nil, xcat_i, xcat_r, xcat_l, xcat_d, Nat.zero_le, Nat.reduceAdd, Nat.reduceLeDiff, true_and, and_true, ykl_i, ykl_r, ykl_n, ykl_l]
    show G (d + 4) 171 0 [some (.ref a), some (.int (yI n))] [] σ Q ↔ _
    simp only [s_171_0, s_171_1, s_171_2, s_171_3, s_171_3i, s_171_4, s_171_5, o, g159 _, el, hgf_s, hsel_0, hsel_1, hsel_2, hsel_3, hsel_4, hsel_5, hsel_6, hsel_7, hsel_8, hset_0, hset_1, hset_2, hset_3, hset_4, hset_5, hset_6, hset_7, hset_8, hpf_s, hcl_s, hai_s, hpi_0, hpi_1, hln_0, hln_1, List.length_cons, List.length_nil, xwr_1, xwr_2, xnew_1, xnew_n, xnew_s, xnew_z, Nat.reduceLT, ite_true, and_self, hp_8_0, hp_8_1, hn_8_1, hp_8_2, hn_8_2, hp_9_0, hp_9_1, hp_9_2, hp_9_3, hp_9_4, hp_9_5, hn_9_5, hp_9_6, hn_9_6, hp_9_7, hn_9_7, hp_10_0, hp_10_1, hp_10_2, hn_10_2, hp_10_3, hn_10_3, hp_11_0, hp_12_0, hn_12_0, hp_12_1, hp_12_2, hp_12_3, hp_12_4, hp_12_5, hn_12_5, hp_12_6, hn_12_6, hp_12_7, hp_12_8, hp_13_0, hn_13_0, hp_13_1, hp_13_2, hp_13_3, hp_14_0, hn_14_0, hp_14_1, hp_14_2, hp_14_3, xdef_8, xdef_9, xdef_10, xdef_11, xdef_12, xdef_13, xdef_14, Gk_v, Gk_n, xcat_nil, xcat_i, xcat_r, xcat_l, xcat_d, Nat.zero_le, Nat.reduceAdd, Nat.reduceLeDiff, true_and, and_true, ykl_i, ykl_r, ykl_n, ykl_l]
  · have h8 := h5 b e hb hba
    rw [xwr_1, if_neg hba, e2, xwr_1]
    by_cases q : b = v1
    · rcases h4 with h4 | h4
      · exact absurd (q.trans h4) hbv
      · have := pZ_lt Z hb
        omega
    · rw [if_neg q, h8]
/-- a text taken from a builder -/
theorem s_166_3n {l0 l1 : Option Value} {st : List Value} {Q : xR → xS → Prop} {a0 a1 : Nat} : G (d + 1) 166 3 [l0, l1] (.null :: .ref a1 :: .ref a0 :: st) σ Q ↔ hcl 13 (xRd σ a0) ∧ (xcat st ≤ 8 ∧ Cl d 168 [.ref a0, .ref a1, .null] σ (Gk (d + 1) 166 3 [l0, l1] st Q)) := hs_pcall (na := 3) (kind := 2) (as := [.null, .ref a1, .ref a0]) f_166_3 (by decide) rfl rfl (show (3 : Nat) ≤ 5 by decide) (by decide)
theorem m_176 (S : pSB σ0 c x σ a v w cap) (hr : σ.2.1.1 < 900000) : ∃ f m, Ra (d + 2) 176 [.ref v, .int 0, .int (yI w.length)] σ (.inl (some (.ref σ.2.1.1))) (xnew σ (.inl (1, (w.length, .inl f))) m) ∧ (m = w.length ∧ ∀ i, i < w.length → f i = yI (pbt w i) ∧ pbt w i < 128) := by
  obtain ⟨⟨F, Z⟩, -, ⟨-, -, hv⟩, ⟨f, h2, h3⟩, hw, hc⟩ := S
  have o2 : xRd σ v = some (.inl (1, (cap, .inl f))) := (yrd_lt hv).trans h2
  have ec : Int32.ofNat cap = yI cap := rfl
  have r9 : σ.2.1.1 < 1000000 := by omega
  by_cases he : w.length = cap
  · have fit := pxfit h3 (Nat.le_refl cap)
    have n3 : cap ≤ 100000 := by omega
    have q2 : (xnew σ (.inl (1, (cap, .inl f))) cap).1 σ.2.1.1 = some (.inl (1, (cap, .inl f))) := pnew_at
    refine ⟨f, cap, fun Q => ?_, he.symm, fun i hi => h3 i (by omega)⟩
    rw [he]
    show G (d + 2) 176 0 [some (.ref v), some (.int 0), some (.int (yI cap))] [] σ Q ↔ _
    simp only [s_176_0, s_176_1, s_176_2, s_176_3, s_176_4, s_176_5, s_176_6, s_176_7, s_176_8, s_176_9, s_176_10, s_176_11, s_176_12, s_176_13, s_176_14, o2, h2, hv, ec, n3, fit, hr, r9, q2, hcn_1, hck_1, ne_eq, not_true_eq_false, if_true, if_false, hgf_s, hsel_0, hsel_1, hsel_2, hsel_3, hsel_4, hsel_5, hsel_6, hsel_7, hsel_8, hset_0, hset_1, hset_2, hset_3, hset_4, hset_5, hset_6, hset_7, hset_8, hpf_s, hcl_s, hai_s, hpi_0, hpi_1, hln_0, hln_1, List.length_cons, List.length_nil, xwr_1, xwr_2, xnew_1, xnew_n, xnew_s, xnew_z, Nat.reduceLT, ite_true, and_self, hp_8_0, hp_8_1, hn_8_1, hp_8_2, hn_8_2, hp_9_0, hp_9_1, hp_9_2, hp_9_3, hp_9_4, hp_9_5, hn_9_5, hp_9_6, hn_9_6, hp_9_7, hn_9_7, hp_10_0, hp_10_1, hp_10_2, hn_10_2, hp_10_3, hn_10_3, hp_11_0, hp_12_0, hn_12_0, hp_12_1, hp_12_2, hp_12_3, hp_12_4, hp_12_5, hn_12_5, hp_12_6, hn_12_6, hp_12_7, hp_12_8, hp_13_0, hn_13_0, hp_13_1, hp_13_2, hp_13_3, hp_14_0, hn_14_0, hp_14_1, hp_14_2, hp_14_3, xdef_8, xdef_9, xdef_10, xdef_11, xdef_12, xdef_13, xdef_14, Gk_v, Gk_n, xcat_nil, xcat_i, xcat_r, xcat_l, xcat_d, Nat.zero_le, Nat.reduceAdd, Nat.reduceLeDiff, true_and, and_true, ykl_i, ykl_r, ykl_n, ykl_l]
  · have ne : ¬ yI w.length = yI cap := fun e => he ((yI_inj (by omega) (by omega)).mp e)
    have o3 : ∀ e m, xRd (xnew σ e m) v = some (.inl (1, (cap, .inl f))) := fun e m => prd_new Z hv o2
    have n1 : ¬ yI w.length < 0 := yI_nneg (by omega)
    have n2 : (yI w.length).toNatClampNeg = w.length := yI_clamp (by omega)
    have n3 : w.length ≤ 100000 := by omega
    have s0 : ∀ y : Int32, y - 0 = y := fun y => Int32.sub_zero y
    have m1 : (if yI w.length < yI cap then yI w.length else yI cap) = yI w.length := if_pos ((yI_lt (by omega) (by omega)).mpr (by omega))
    have z0 : (0 : Int32) ≤ yI w.length := Int32.not_lt.mp n1
    have fit := pxfit h3 hw
    have le1 : 0 + w.length ≤ cap := by omega
    have le2 : 0 + w.length ≤ w.length := by omega
    have g175 : ∀ Q', Cl d 175 [.int 0, .int (yI w.length)] σ Q' ↔ Q' (.inl none) σ := by
      intro Q'
      show G d 175 0 [some (.int 0), some (.int (yI w.length))] [] σ Q' ↔ _
      simp only [s_175_0, s_175_1, s_175_2, s_175_17, z0, if_true]
    have g177 : ∀ Q', Cl (d + 1) 177 [.ref v, .int 0, .int (yI w.length)] σ Q' ↔ Q' (.inl (some (.ref σ.2.1.1))) (xnew σ (.inl (1, (w.length, .inl (va_cpy f (fun _ => 0) 0 0 w.length)))) w.length) := by
      intro Q'
      show G (d + 1) 177 0 [some (.ref v), some (.int 0), some (.int (yI w.length)), none, none] [] σ Q' ↔ _
      simp only [s_177_0, s_177_1, s_177_2, s_177_3, s_177_4, s_177_5, s_177_6, s_177_7, s_177_8, s_177_10, s_177_11, s_177_12, s_177_13, s_177_14, s_177_15, s_177_16, s_177_17, s_177_18, s_177_20, s_177_21, s_177_22, s_177_9 r9, s_177_19 xc_irir, g175 _, o2, o3, ec, s0, n1, n2, n3, m1, r9, hr, fit, le1, le2, hcp_1, ycl00, ynz0, pnew_at, pwr_nw, not_false_eq_true, hgf_s, hsel_0, hsel_1, hsel_2, hsel_3, hsel_4, hsel_5, hsel_6, hsel_7, hsel_8, hset_0, hset_1, hset_2, hset_3, hset_4, hset_5, hset_6, hset_7, hset_8, hpf_s, hcl_s, hai_s, hpi_0, hpi_1, hln_0, hln_1, List.length_cons, List.length_nil, xwr_1, xwr_2, xnew_1, xnew_n, xnew_s, xnew_z, Nat.reduceLT, ite_true, and_self, hp_8_0, hp_8_1, hn_8_1, hp_8_2, hn_8_2, hp_9_0, hp_9_1, hp_9_2, hp_9_3, hp_9_4, hp_9_5, hn_9_5, hp_9_6, hn_9_6, hp_9_7, hn_9_7, hp_10_0, hp_10_1, hp_10_2, hn_10_2, hp_10_3, hn_10_3, hp_11_0, hp_12_0, hn_12_0, hp_12_1, hp_12_2, hp_12_3, hp_12_4, hp_12_5, hn_12_5, hp_12_6, hn_12_6, hp_12_7, hp_12_8, hp_13_0, hn_13_0, hp_13_1, hp_13_2, hp_13_3, hp_14_0, hn_14_0, hp_14_1, hp_14_2, hp_14_3, xdef_8, xdef_9, xdef_10, xdef_11, xdef_12, xdef_13, xdef_14, Gk_v, Gk_n, xcat_nil, xcat_i, xcat_r, xcat_l, xcat_d, Nat.zero_le, Nat.reduceAdd, Nat.reduceLeDiff, true_and, and_true, ykl_i, ykl_r, ykl_n, ykl_l]
    refine ⟨va_cpy f (fun _ => 0) 0 0 w.length, w.length, fun Q => ?_, rfl, fun i hi => ?_⟩
    · show G (d + 2) 176 0 [some (.ref v), some (.int 0), some (.int (yI w.length))] [] σ Q ↔ _
      simp only [s_176_0, s_176_1, s_176_2, s_176_3, s_176_4, s_176_5, s_176_6, s_176_7, s_176_8, s_176_9, s_176_10, o2, ec, ne, g177 _, ne_eq, not_true_eq_false, if_false, hgf_s, hsel_0, hsel_1, hsel_2, hsel_3, hsel_4, hsel_5, hsel_6, hsel_7, hsel_8, hset_0, hset_1, hset_2, hset_3, hset_4, hset_5, hset_6, hset_7, hset_8, hpf_s, hcl_s, hai_s, hpi_0, hpi_1, hln_0, hln_1, List.length_cons, List.length_nil, xwr_1, xwr_2, xnew_1, xnew_n, xnew_s, xnew_z, Nat.reduceLT, ite_true, and_self, hp_8_0, hp_8_1, hn_8_1, hp_8_2, hn_8_2, hp_9_0, hp_9_1, hp_9_2, hp_9_3, hp_9_4, hp_9_5, hn_9_5, hp_9_6, hn_9_6, hp_9_7, hn_9_7, hp_10_0, hp_10_1, hp_10_2, hn_10_2, hp_10_3, hn_10_3, hp_11_0, hp_12_0, hn_12_0, hp_12_1, hp_12_2, hp_12_3, hp_12_4, hp_12_5, hn_12_5, hp_12_6, hn_12_6, hp_12_7, hp_12_8, hp_13_0, hn_13_0, hp_13_1, hp_13_2, hp_13_3, hp_14_0, hn_14_0, hp_14_1, hp_14_2, hp_14_3, xdef_8, xdef_9, xdef_10, xdef_11, xdef_12, xdef_13, xdef_14, Gk_v, Gk_n, xcat_nil, xcat_i, xcat_r, xcat_l, xcat_d, Nat.zero_le, Nat.reduceAdd, Nat.reduceLeDiff, true_and, and_true, ykl_i, ykl_r, ykl_n, ykl_l]
    · unfold va_cpy
      rw [if_pos ⟨Nat.zero_le _, by omega⟩, Nat.zero_add, Nat.sub_zero]
      exact h3 i (by omega)
theorem m_172 (S : pSB σ0 c x σ a v w cap) (hr : σ.2.1.1 + 2 < 900000) : ∃ τ, Ra (d + 5) 172 [.ref a] σ (.inl (some (.ref σ.2.1.1))) τ ∧ (pTy τ σ.2.1.1 (σ.2.1.1 + 1) w ∧ ((pF pno (c + 2) (x + 4 + 180) σ0 τ ∧ pZ τ) ∧ ((∀ b e, σ.1 b = some e → τ.1 b = some e) ∧ τ.2.1.1 = σ.2.1.1 + 2))) := by
  have hs0 := S.1.1.2.2.1.1
  have Z := S.1.2
  have Z1 := pZ_new (e := .inr (13, xdef 13)) (m := 4) Z
  have F1 := pF_al (e := .inr (13, xdef 13)) (m := 4) S.1.1
  have b1 : (xnew σ (.inr (13, xdef 13)) 4).1 σ.2.1.1 = some (.inr (13, xdef 13)) := pnew_at
  have b3 : ∀ b e, σ.1 b = some e → (xnew σ (.inr (13, xdef 13)) 4).1 b = some e := fun b e h => by
    have := pZ_lt Z h
    rw [xnew_1, if_neg (by omega), h]
  have x1 : (xnew σ (.inr (13, xdef 13)) 4).2.1.1 = σ.2.1.1 + 1 := rfl
  have S1 : pSB σ0 (c + 1) (x + 4) (xnew σ (.inr (13, xdef 13)) 4) a v w cap := by
    obtain ⟨-, q2, ⟨q3, q4⟩, ⟨f, q5, q6⟩, q7⟩ := S
    exact ⟨⟨F1, Z1⟩, q2, ⟨b3 _ _ q3, q4⟩, ⟨f, b3 _ _ q5, q6⟩, q7⟩
  obtain ⟨σ1, e1⟩ : ∃ σ1, σ1 = xnew σ (.inr (13, xdef 13)) 4 := ⟨_, rfl⟩
  rw [← e1] at Z1 F1 b1 b3 x1 S1
  -- its coder
  have b1' : σ1.1 σ.2.1.1 = some (.inr (13, [.null, .int 0, .int 0, .int 0])) := b1
  have r9 : σ.2.1.1 < 1000000 := by omega
  have hval := S1.2.2.1
  have b4 : (xwr σ1 σ.2.1.1 (.inr (13, [.null, .int 0, .int 0, .int 0]))) = σ1 := by
    refine Prod.ext (funext fun b => ?_) rfl
    show (if b = σ.2.1.1 then _ else σ1.1 b) = σ1.1 b
    by_cases h : b = σ.2.1.1
    · rw [if_pos h, h, b1']
    · rw [if_neg h]
  obtain ⟨f, m, k1, hm, h7⟩ := m_176 (d := d) S1 (by omega)
  subst hm
  have Z2 := pZ_new (e := .inl (1, (w.length, .inl f))) (m := w.length) Z1
  have F2 := pF_al (e := .inl (1, (w.length, .inl f))) (m := w.length) F1
  have c1 : (xnew σ1 (.inl (1, (w.length, .inl f))) w.length).1 σ.2.1.1 = some (.inr (13, [.null, .int 0, .int 0, .int 0])) := by rw [xnew_1, if_neg (by omega), b1']
  have c2 : (xnew σ1 (.inl (1, (w.length, .inl f))) w.length).1 σ1.2.1.1 = some (.inl (1, (w.length, .inl f))) := pnew_at
  have c3 : ∀ b e, σ.1 b = some e → (xnew σ1 (.inl (1, (w.length, .inl f))) w.length).1 b = some e := fun b e h => by
    have := pZ_lt Z1 (b3 b e h)
    rw [xnew_1, if_neg (by omega), b3 b e h]
  have x2 : (xnew σ1 (.inl (1, (w.length, .inl f))) w.length).2.1.1 = σ1.2.1.1 + 1 := rfl
  obtain ⟨σ2, e2⟩ : ∃ σ2, σ2 = xnew σ1 (.inl (1, (w.length, .inl f))) w.length := ⟨_, rfl⟩
  rw [← e2] at Z2 F2 c1 c2 c3 x2 k1
  have hw89 : w.length ≤ 180 := Nat.le_trans S.2.2.2.2.1 S.2.2.2.2.2
  refine ⟨xwr σ2 σ.2.1.1 (.inr (13, [.ref σ1.2.1.1, .int 0, .int 0, .int 0])), fun Q => ?_, ⟨f, [.int 0, .int 0], ⟨?_, ?_⟩, h7, Or.inr ⟨by omega, by omega⟩⟩, ⟨(pF_hi F2 Z2 c1 hs0).mono (fun _ _ q => q) (by omega) (by omega), pZ_wr Z2 c1⟩, fun b e h => ?_, by show σ2.2.1.1 = _; omega⟩
  · have o1 := S1.ob
    have os1 : xRd σ1 σ.2.1.1 = some (.inr (13, xdef 13)) := (yrd_lt r9).trans b1
    have h1 : ¬ (1 : Int32) = 0 := by decide
    have r0 : σ.2.1.1 < 900000 := by omega
    have hv := S1.2.2.1.2.2
    have g168 : ∀ Q', Cl (d + 3) 168 [.ref σ.2.1.1, .ref a, .null] σ1 Q' ↔ Q' (.inl none) (xwr σ2 σ.2.1.1 (.inr (13, [.ref σ1.2.1.1, .int 0, .int 0, .int 0]))) := by
      intro Q'
      show G (d + 3) 168 0 [some (.ref σ.2.1.1), some (.ref a), some .null, none, none] [] σ1 Q' ↔ _
      simp only [s_168_0, s_168_1, s_168_2, s_168_3, s_168_5, s_168_6, s_168_7, s_168_8, s_168_9, s_168_10, s_168_11, s_168_12, s_168_13, s_168_14, s_168_15, s_168_16, s_168_17, s_168_18, s_168_19, s_168_20, s_168_4 hv, s_168_50, o1, r9, h1, m_160 S1 _, m_173 S1 _, m_161 S1 _, b1', b4, k1 _, c1, if_false, hgf_s, hsel_0, hsel_1, hsel_2, hsel_3, hsel_4, hsel_5, hsel_6, hsel_7, hsel_8, hset_0, hset_1, hset_2, hset_3, hset_4, hset_5, hset_6, hset_7, hset_8, hpf_s, hcl_s, hai_s, hpi_0, hpi_1, hln_0, hln_1, List.length_cons, List.length_nil, xwr_1, xwr_2, xnew_1, xnew_n, xnew_s, xnew_z, Nat.reduceLT, ite_true, and_self, hp_8_0, hp_8_1, hn_8_1, hp_8_2, hn_8_2, hp_9_0, hp_9_1, hp_9_2, hp_9_3, hp_9_4, hp_9_5, hn_9_5, hp_9_6, hn_9_6, hp_9_7, hn_9_7, hp_10_0, hp_10_1, hp_10_2, hn_10_2, hp_10_3, hn_10_3, hp_11_0, hp_12_0, hn_12_0, hp_12_1, hp_12_2, hp_12_3, hp_12_4, hp_12_5, hn_12_5, hp_12_6, hn_12_6, hp_12_7, hp_12_8, hp_13_0, hn_13_0, hp_13_1, hp_13_2, hp_13_3, hp_14_0, hn_14_0, hp_14_1, hp_14_2, hp_14_3, xdef_8, xdef_9, xdef_10, xdef_11, xdef_12, xdef_13, xdef_14, Gk_v, Gk_n, xcat_nil, xcat_i, xcat_r, xcat_l, xcat_d, Nat.zero_le, Nat.reduceAdd, Nat.reduceLeDiff, true_and, and_true, ykl_i, ykl_r, ykl_n, ykl_l]
    show G (d + 5) 172 0 [some (.ref a)] [] σ Q ↔ _
    simp only [s_172_0, r0, true_and]
    rw [← e1]
    have g166 : ∀ Q', Cl (d + 4) 166 [.ref σ.2.1.1, .ref a] σ1 Q' ↔ Q' (.inl none) (xwr σ2 σ.2.1.1 (.inr (13, [.ref σ1.2.1.1, .int 0, .int 0, .int 0]))) := by
      intro Q'
      show G (d + 4) 166 0 [some (.ref σ.2.1.1), some (.ref a)] [] σ1 Q' ↔ _
      simp only [s_166_0, s_166_1, s_166_2, s_166_3n, s_166_4, os1, g168 _, hgf_s, hsel_0, hsel_1, hsel_2, hsel_3, hsel_4, hsel_5, hsel_6, hsel_7, hsel_8, hset_0, hset_1, hset_2, hset_3, hset_4, hset_5, hset_6, hset_7, hset_8, hpf_s, hcl_s, hai_s, hpi_0, hpi_1, hln_0, hln_1, List.length_cons, List.length_nil, xwr_1, xwr_2, xnew_1, xnew_n, xnew_s, xnew_z, Nat.reduceLT, ite_true, and_self, hp_8_0, hp_8_1, hn_8_1, hp_8_2, hn_8_2, hp_9_0, hp_9_1, hp_9_2, hp_9_3, hp_9_4, hp_9_5, hn_9_5, hp_9_6, hn_9_6, hp_9_7, hn_9_7, hp_10_0, hp_10_1, hp_10_2, hn_10_2, hp_10_3, hn_10_3, hp_11_0, hp_12_0, hn_12_0, hp_12_1, hp_12_2, hp_12_3, hp_12_4, hp_12_5, hn_12_5, hp_12_6, hn_12_6, hp_12_7, hp_12_8, hp_13_0, hn_13_0, hp_13_1, hp_13_2, hp_13_3, hp_14_0, hn_14_0, hp_14_1, hp_14_2, hp_14_3, xdef_8, xdef_9, xdef_10, xdef_11, xdef_12, xdef_13, xdef_14, Gk_v, Gk_n, xcat_nil, xcat_i, xcat_r, xcat_l, xcat_d, Nat.zero_le, Nat.reduceAdd, Nat.reduceLeDiff, true_and, and_true, ykl_i, ykl_r, ykl_n, ykl_l]
    simp only [s_172_1, s_172_1i, s_172_2, s_172_3, s_172_4, os1, g166 _, hgf_s, hsel_0, hsel_1, hsel_2, hsel_3, hsel_4, hsel_5, hsel_6, hsel_7, hsel_8, hset_0, hset_1, hset_2, hset_3, hset_4, hset_5, hset_6, hset_7, hset_8, hpf_s, hcl_s, hai_s, hpi_0, hpi_1, hln_0, hln_1, List.length_cons, List.length_nil, xwr_1, xwr_2, xnew_1, xnew_n, xnew_s, xnew_z, Nat.reduceLT, ite_true, and_self, hp_8_0, hp_8_1, hn_8_1, hp_8_2, hn_8_2, hp_9_0, hp_9_1, hp_9_2, hp_9_3, hp_9_4, hp_9_5, hn_9_5, hp_9_6, hn_9_6, hp_9_7, hn_9_7, hp_10_0, hp_10_1, hp_10_2, hn_10_2, hp_10_3, hn_10_3, hp_11_0, hp_12_0, hn_12_0, hp_12_1, hp_12_2, hp_12_3, hp_12_4, hp_12_5, hn_12_5, hp_12_6, hn_12_6, hp_12_7, hp_12_8, hp_13_0, hn_13_0, hp_13_1, hp_13_2, hp_13_3, hp_14_0, hn_14_0, hp_14_1, hp_14_2, hp_14_3, xdef_8, xdef_9, xdef_10, xdef_11, xdef_12, xdef_13, xdef_14, Gk_v, Gk_n, xcat_nil, xcat_i, xcat_r, xcat_l, xcat_d, Nat.zero_le, Nat.reduceAdd, Nat.reduceLeDiff, true_and, and_true, ykl_i, ykl_r, ykl_n, ykl_l]
  · rw [yrd_lt r9, pwr_at, x1]
  · rw [yrd_lt (by omega), xwr_1, if_neg (by omega), ← x1, c2]
  · have := pZ_lt Z h
    rw [xwr_1, if_neg (by omega)]
    exact c3 b e h
end

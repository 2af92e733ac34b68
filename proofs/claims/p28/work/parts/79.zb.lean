/-! ===== texts are written: texts, numbers ===== -/
/-- a text in the cells, or of the program -/
def pTx (b r : Nat) (σ : xS) (a : Nat) (w : List Nat) : Prop :=
  ∃ v f tl, xStr σ a v w.length f tl ∧ ((∀ i, i < w.length → f i = yI (pbt w i) ∧ pbt w i < 128) ∧ ((1000000 ≤ a ∧ 1000000 ≤ v) ∨ ((a < 1000000 ∧ ¬ pXp b r a) ∧ (v < 1000000 ∧ ¬ pXp b r v))))
def ptw (i : Nat) : List Nat := (List.range (ywl i)).map (ywc i)
theorem ptw_len {i : Nat} : (ptw i).length = ywl i := by unfold ptw; simp
theorem ptw_bt {i q : Nat} (h : q < ywl i) : pbt (ptw i) q = ywc i q := by
  unfold pbt ptw
  rw [List.getD_eq_getElem?_getD, List.getElem?_map, List.getElem?_range h]
  rfl
theorem pTx_t {b r i : Nat} {σ : xS} (hi : i < 26) : pTx b r σ (1000100 + i) (ptw i) := by
  obtain ⟨h0, h1⟩ := yw_8 i hi
  refine ⟨1000200 + i, fun j => (xstr.getD i []).getD j 0, [], by rw [ptw_len]; exact xStr_t hi, fun q hq => ?_, Or.inl ⟨by omega, by omega⟩⟩
  rw [ptw_len] at hq
  obtain ⟨h2, h3⟩ := h1 q hq
  rw [ptw_bt hq]
  exact ⟨h3, h2⟩
theorem pTx.keep {b r a c x : Nat} {σ τ : xS} {w : List Nat} (T : pTx b r σ a w) (Z : pZ σ) (F : pF (pXp b r) c x σ τ) : pTx b r τ a w := by
  obtain ⟨v, f, tl, ⟨h1, h2⟩, h3, h4⟩ := T
  refine ⟨v, f, tl, ?_, h3, h4⟩
  rcases h4 with ⟨g1, g2⟩ | ⟨⟨g1, g2⟩, g3, g4⟩
  · exact ⟨by rw [xRd_x g1 F.2.2.2.2]; exact h1, by rw [xRd_x g2 F.2.2.2.2]; exact h2⟩
  · rw [yrd_lt g1] at h1
    rw [yrd_lt g3] at h2
    exact ⟨by rw [yrd_lt g1]; exact pF_keep Z F h1 g2, by rw [yrd_lt g3]; exact pF_keep Z F h2 g4⟩
theorem ptake {w : List Nat} {i : Nat} (h : i < w.length) : w.take i ++ [pbt w i] = w.take (i + 1) := by
  unfold pbt
  rw [List.getD_eq_getElem?_getD, List.getElem?_eq_getElem h, List.take_succ, List.getElem?_eq_getElem h]
  rfl
/-- the digits from the power 10^m on -/
def pdg : Nat → Nat → List Nat
  | 0, n => [48 + n / 1 % 10]
  | m + 1, n => (48 + n / 10 ^ (m + 1) % 10) :: pdg m n
def pdn (n : Nat) : Nat := if n < 10 then 0 else if n < 100 then 1 else if n < 1000 then 2 else 3
def pdec (n : Nat) : List Nat := pdg (pdn n) n
theorem pdg_len {n : Nat} : ∀ m, (pdg m n).length = m + 1 := by
  intro m
  induction m with
  | zero => rfl
  | succ m ih =>
    show (pdg m n).length + 1 = _
    rw [ih]
theorem pdn_le {n : Nat} : pdn n ≤ 3 := by
  unfold pdn
  split
  · omega
  · split
    · omega
    · split <;> omega
theorem pdec_len {n : Nat} : (pdec n).length ≤ 4 := by
  unfold pdec
  rw [pdg_len]
  have := pdn_le (n := n)
  omega
/-- numbers from j on, each behind a blank -/
def pnm (v : Nat → Nat) : Nat → Nat → List Nat
  | _, 0 => []
  | j, m + 1 => 32 :: (pdec (v j) ++ pnm v (j + 1) m)
theorem pnm_len {v : Nat → Nat} : ∀ m j, (pnm v j m).length ≤ 5 * m := by
  intro m
  induction m with
  | zero => intro j; exact Nat.le_refl _
  | succ m ih =>
    intro j
    have h1 := ih (j + 1)
    have h2 := pdec_len (n := v j)
    show ((pdec (v j) ++ pnm v (j + 1) m).length + 1) ≤ _
    rw [List.length_append]
    omega
section
variable {d : Nat} {D : yD} {k : Nat} {E : Nat → yD} {s0 s1 : Option yD} {n n' : Nat} {B B' : Nat → Nat} {eo en : Int32} {t t0 u : yT} {σ σ0 τ : xS} {b r c x a : Nat} {l w : List Nat} {P : Nat → Prop}
theorem l_182 (X0 : pX0 b r σ0 t0) (C : yCI t0 D k E s0 s1 n B eo en) (hl : l.length + w.length ≤ 600) : ∀ m i σ, i + m = w.length → pX b r σ0 t0 c x σ (l ++ w.take i) → pTx b r σ a w → ∃ τ, Ga (d + 4) 182 2 [some (.ref 0), some (.ref b), some (.ref a), some (.int (yI i))] [] σ (.inl none) τ ∧ (pX b r σ0 t0 c x τ (l ++ w) ∧ pF (pXp b r) 0 0 σ τ) := by
  intro m
  induction m with
  | zero =>
    intro i σ hi X T
    have ei : i = w.length := by omega
    subst ei
    rw [List.take_length] at X
    obtain ⟨v, f, tl, h1, -⟩ := T
    refine ⟨σ, fun Q => ?_, X, pF.rfl'⟩
    have g1 := m_217g (d := d + 2) h1
    rw [s_182_2]
    simp only [s_182_3, s_182_4, s_182_5, s_182_14, h1.1, g1 _, Int32.le_refl, if_true, hgf_s, hsel_0, hsel_1, hsel_2, hsel_3, hsel_4, hsel_5, hsel_6, hsel_7, hsel_8, hset_0, hset_1, hset_2, hset_3, hset_4, hset_5, hset_6, hset_7, hset_8, hpf_s, hcl_s, hai_s, hpi_0, hpi_1, hln_0, hln_1, List.length_cons, List.length_nil, xwr_1, xwr_2, xnew_1, xnew_n, xnew_s, xnew_z, Nat.reduceLT, ite_true, and_self, hp_8_0, hp_8_1, hn_8_1, hp_8_2, hn_8_2, hp_9_0, hp_9_1, hp_9_2, hp_9_3, hp_9_4, hp_9_5, hn_9_5, hp_9_6, hn_9_6, hp_9_7, hn_9_7, hp_10_0, hp_10_1, hp_10_2, hn_10_2, hp_10_3, hn_10_3, hp_11_0, hp_12_0, hn_12_0, hp_12_1, hp_12_2, hp_12_3, hp_12_4, hp_12_5, hn_12_5, hp_12_6, hn_12_6, hp_12_7, hp_12_8, hp_13_0, hn_13_0, hp_13_1, hp_13_2, hp_13_3, hp_14_0, hn_14_0, hp_14_1, hp_14_2, hp_14_3, xdef_8, xdef_9, xdef_10, xdef_11, xdef_12, xdef_13, xdef_14, Gk_v, Gk_n, xcat_nil, xcat_i, xcat_r, xcat_l, xcat_d, Nat.zero_le, Nat.reduceAdd, Nat.reduceLeDiff, true_and, and_true, ykl_i, ykl_r, ykl_n, ykl_l]
  | succ m ih =>
    intro i σ hi X T
    have hiw : i < w.length := by omega
    have T0 := T
    obtain ⟨v, f, tl, h1, h2, -⟩ := T
    obtain ⟨h3, h4⟩ := h2 i hiw
    have z1 : ¬ yI w.length ≤ yI i := fun h => absurd ((yI_le (by omega) (by omega)).mp h) (by omega)
    have z4 : yI i + 1 = yI (i + 1) := yI_add
    have g1 := m_217g (d := d + 2) h1
    have g2 := m_218g (d := d) h1 hiw (by omega) h3 h4
    have hlt : (l ++ w.take i).length + 1 ≤ 600 := by
      rw [List.length_append, List.length_take]
      omega
    obtain ⟨τ1, k1, X1, F1⟩ := m_179 (d := d) X0 C X h4 hlt
    rw [List.append_assoc, ptake hiw] at X1
    obtain ⟨τ, i1, i2, i3⟩ := ih (i + 1) τ1 (by omega) X1 (T0.keep (X.Z X0) F1)
    refine ⟨τ, fun Q => ?_, i2, pF.trans F1 i3 (fun _ _ q => q.elim id id)⟩
    refine Iff.trans ?_ (i1 Q)
    rw [s_182_2]
    simp only [s_182_3, s_182_4, s_182_5, s_182_6, s_182_7, s_182_8, s_182_9, s_182_10, s_182_11, s_182_12, s_182_13, h1.1, g1 _, g2 _, k1 _, z1, z4, if_false, hgf_s, hsel_0, hsel_1, hsel_2, hsel_3, hsel_4, hsel_5, hsel_6, hsel_7, hsel_8, hset_0, hset_1, hset_2, hset_3, hset_4, hset_5, hset_6, hset_7, hset_8, hpf_s, hcl_s, hai_s, hpi_0, hpi_1, hln_0, hln_1, List.length_cons, List.length_nil, xwr_1, xwr_2, xnew_1, xnew_n, xnew_s, xnew_z, Nat.reduceLT, ite_true, and_self, hp_8_0, hp_8_1, hn_8_1, hp_8_2, hn_8_2, hp_9_0, hp_9_1, hp_9_2, hp_9_3, hp_9_4, hp_9_5, hn_9_5, hp_9_6, hn_9_6, hp_9_7, hn_9_7, hp_10_0, hp_10_1, hp_10_2, hn_10_2, hp_10_3, hn_10_3, hp_11_0, hp_12_0, hn_12_0, hp_12_1, hp_12_2, hp_12_3, hp_12_4, hp_12_5, hn_12_5, hp_12_6, hn_12_6, hp_12_7, hp_12_8, hp_13_0, hn_13_0, hp_13_1, hp_13_2, hp_13_3, hp_14_0, hn_14_0, hp_14_1, hp_14_2, hp_14_3, xdef_8, xdef_9, xdef_10, xdef_11, xdef_12, xdef_13, xdef_14, Gk_v, Gk_n, xcat_nil, xcat_i, xcat_r, xcat_l, xcat_d, Nat.zero_le, Nat.reduceAdd, Nat.reduceLeDiff, true_and, and_true, ykl_i, ykl_r, ykl_n, ykl_l]
theorem m_182 (X0 : pX0 b r σ0 t0) (C : yCI t0 D k E s0 s1 n B eo en) (X : pX b r σ0 t0 c x σ l) (hl : l.length + w.length ≤ 600) (T : pTx b r σ a w) : ∃ τ, Ra (d + 4) 182 [.ref 0, .ref b, .ref a] σ (.inl none) τ ∧ (pX b r σ0 t0 c x τ (l ++ w) ∧ pF (pXp b r) 0 0 σ τ) := by
  obtain ⟨τ, i1, i2⟩ := l_182 (d := d) X0 C hl w.length 0 σ (Nat.zero_add _) (by rw [List.take_zero, List.append_nil]; exact X) T
  refine ⟨τ, fun Q => ?_, i2⟩
  refine Iff.trans ?_ (i1 Q)
  show G (d + 4) 182 0 [some (.ref 0), some (.ref b), some (.ref a), none] [] σ Q ↔ _
  simp only [s_182_0, s_182_1, Gk_v, Gk_n, xcat_nil, xcat_i, xcat_r, xcat_l, xcat_d, Nat.zero_le, Nat.reduceAdd, Nat.reduceLeDiff, true_and, and_true, ykl_i, ykl_r, ykl_n, ykl_l]
  exact Iff.rfl
/-- a number's power -/
theorem l_183a {v : Nat} (hv : v < 10000) : ∀ m j, j + m = pdn v → ∀ Q, G d 183 2 [some (.ref 0), some (.ref b), some (.int (yI v)), some (.int (yI (10 ^ j)))] [] σ Q ↔ G d 183 12 [some (.ref 0), some (.ref b), some (.int (yI v)), some (.int (yI (10 ^ pdn v)))] [] σ Q := by
  have n10 : ¬ (10 : Int32) = 0 := by decide
  have a1 : yI v / 10 = yI (v / 10) := yI_div (b := 10) (by omega) (by decide)
  have h3 := pdn_le (n := v)
  intro m
  induction m with
  | zero =>
    intro j hj Q
    have ej : j = pdn v := by omega
    subst ej
    have z : yI (v / 10) < yI (10 ^ pdn v) := by
      have hp : 10 ^ pdn v ≤ 10 ^ 3 := Nat.pow_le_pow_right (by decide) h3
      refine (yI_lt (by omega) (by omega)).mpr ?_
      unfold pdn
      split
      · show v / 10 < 1; omega
      · split
        · show v / 10 < 10; omega
        · split
          · show v / 10 < 100; omega
          · show v / 10 < 1000; omega
    rw [s_183_2]
    simp only [s_183_3, s_183_4, s_183_5 n10, s_183_6, a1, z, if_true, Gk_v, Gk_n, xcat_nil, xcat_i, xcat_r, xcat_l, xcat_d, Nat.zero_le, Nat.reduceAdd, Nat.reduceLeDiff, true_and, and_true, ykl_i, ykl_r, ykl_n, ykl_l]
  | succ m ih =>
    intro j hj Q
    have hp : 10 ^ j ≤ 10 ^ 3 := Nat.pow_le_pow_right (by decide) (by omega)
    have z : ¬ yI (v / 10) < yI (10 ^ j) := fun q => by
      have h := (yI_lt (by omega) (by omega)).mp q
      have hj' : j < pdn v := by omega
      unfold pdn at hj'
      rcases (by omega : j = 0 ∨ (j = 1 ∨ (j = 2 ∨ 3 ≤ j))) with rfl | rfl | rfl | hj3
      · rw [show (10 : Nat) ^ 0 = 1 from rfl] at h
        split at hj'
        · omega
        · omega
      · rw [show (10 : Nat) ^ 1 = 10 from rfl] at h
        split at hj'
        · omega
        · split at hj'
          · omega
          · omega
      · rw [show (10 : Nat) ^ 2 = 100 from rfl] at h
        split at hj'
        · omega
        · split at hj'
          · omega
          · split at hj' <;> omega
      · split at hj'
        · omega
        · split at hj'
          · omega
          · split at hj' <;> omega
    have z4 : yI (10 ^ j) * 10 = yI (10 ^ (j + 1)) := by rw [Nat.pow_succ]; exact yI_mul (m := 10)
    refine Iff.trans ?_ (ih (j + 1) (by omega) Q)
    rw [s_183_2]
    simp only [s_183_3, s_183_4, s_183_5 n10, s_183_6, s_183_7, s_183_8, s_183_9, s_183_10, s_183_11, a1, z, z4, if_false, Gk_v, Gk_n, xcat_nil, xcat_i, xcat_r, xcat_l, xcat_d, Nat.zero_le, Nat.reduceAdd, Nat.reduceLeDiff, true_and, and_true, ykl_i, ykl_r, ykl_n, ykl_l]
theorem l_183b (X0 : pX0 b r σ0 t0) (C : yCI t0 D k E s0 s1 n B eo en) {v : Nat} (hv : v < 10000) : ∀ m l σ, m ≤ 3 → l.length + (m + 1) ≤ 600 → pX b r σ0 t0 c x σ l → ∃ τ, Ga (d + 4) 183 12 [some (.ref 0), some (.ref b), some (.int (yI v)), some (.int (yI (10 ^ m)))] [] σ (.inl none) τ ∧ (pX b r σ0 t0 c x τ (l ++ pdg m v) ∧ pF (pXp b r) 0 0 σ τ) := by
  have n10 : ¬ (10 : Int32) = 0 := by decide
  intro m
  induction m with
  | zero =>
    intro l σ hm hl X
    have z1 : ¬ yI (10 ^ 0) ≤ 0 := by decide
    have n1 : ¬ yI (10 ^ 0) = 0 := by decide
    have a1 : yI v / yI (10 ^ 0) = yI (v / 1) := yI_div (by omega) (by decide)
    have a2 : yI (v / 1) - yI (v / 1) / 10 * 10 = yI (v / 1 % 10) := yI_mod (b := 10) (by omega) (by decide) (by decide)
    have a3 : (48 : Int32) + yI (v / 1 % 10) = yI (48 + v / 1 % 10) := yI_add (n := 48)
    have a4 : yI (10 ^ 0) / 10 = 0 := by decide
    obtain ⟨τ, k1, X1, F1⟩ := m_179 (d := d) X0 C X (y := 48 + v / 1 % 10) (by omega) (by omega)
    refine ⟨τ, fun Q => ?_, X1, F1⟩
    rw [s_183_12]
    simp only [s_183_13, s_183_14, s_183_15, s_183_16, s_183_17, s_183_18, s_183_20, s_183_22, s_183_23, s_183_24, s_183_25, s_183_27, s_183_28, s_183_19 n1, s_183_21 n10, s_183_26 n10, z1, a1, a2, a3, a4, k1 _, if_false, Gk_v, Gk_n, xcat_nil, xcat_i, xcat_r, xcat_l, xcat_d, Nat.zero_le, Nat.reduceAdd, Nat.reduceLeDiff, true_and, and_true, ykl_i, ykl_r, ykl_n, ykl_l]
    rw [s_183_12]
    simp only [s_183_13, s_183_29, Int32.le_refl, if_true]
  | succ m ih =>
    intro l σ hm hl X
    have hp : 10 ^ (m + 1) ≤ 10 ^ 3 := Nat.pow_le_pow_right (by decide) hm
    have hp1 : 0 < 10 ^ (m + 1) := Nat.pow_pos (by decide)
    have z1 : ¬ yI (10 ^ (m + 1)) ≤ 0 := fun q => by
      have := (yI_le (m := 0) (by omega) (by decide)).mp q
      omega
    have n1 : ¬ yI (10 ^ (m + 1)) = 0 := fun q => by
      have := (yI_inj (m := 0) (by omega) (by decide)).mp q
      omega
    have hle : v / 10 ^ (m + 1) ≤ v := Nat.div_le_self _ _
    have a1 : yI v / yI (10 ^ (m + 1)) = yI (v / 10 ^ (m + 1)) := yI_div (by omega) (by omega)
    have a2 : yI (v / 10 ^ (m + 1)) - yI (v / 10 ^ (m + 1)) / 10 * 10 = yI (v / 10 ^ (m + 1) % 10) := yI_mod (b := 10) (by omega) (by decide) (by decide)
    have a3 : (48 : Int32) + yI (v / 10 ^ (m + 1) % 10) = yI (48 + v / 10 ^ (m + 1) % 10) := yI_add (n := 48)
    have a4 : yI (10 ^ (m + 1)) / 10 = yI (10 ^ m) := by
      have e : 10 ^ (m + 1) / 10 = 10 ^ m := by rw [Nat.pow_succ]; exact Nat.mul_div_cancel _ (by decide)
      rw [← e]
      exact yI_div (b := 10) (by omega) (by decide)
    obtain ⟨τ1, k1, X1, F1⟩ := m_179 (d := d) X0 C X (y := 48 + v / 10 ^ (m + 1) % 10) (by omega) (by omega)
    obtain ⟨τ, i1, i2, i3⟩ := ih (l ++ [48 + v / 10 ^ (m + 1) % 10]) τ1 (by omega) (by rw [List.length_append]; show l.length + 1 + (m + 1) ≤ 600; omega) X1
    refine ⟨τ, fun Q => ?_, ?_, pF.trans F1 i3 (fun _ _ q => q.elim id id)⟩
    · refine Iff.trans ?_ (i1 Q)
      rw [s_183_12]
      simp only [s_183_13, s_183_14, s_183_15, s_183_16, s_183_17, s_183_18, s_183_20, s_183_22, s_183_23, s_183_24, s_183_25, s_183_27, s_183_28, s_183_19 n1, s_183_21 n10, s_183_26 n10, z1, a1, a2, a3, a4, k1 _, if_false, Gk_v, Gk_n, xcat_nil, xcat_i, xcat_r, xcat_l, xcat_d, Nat.zero_le, Nat.reduceAdd, Nat.reduceLeDiff, true_and, and_true, ykl_i, ykl_r, ykl_n, ykl_l]
    · rw [List.append_assoc] at i2
      exact i2
theorem m_183 (X0 : pX0 b r σ0 t0) (C : yCI t0 D k E s0 s1 n B eo en) (X : pX b r σ0 t0 c x σ l) {v : Nat} (hv : v < 10000) (hl : l.length + 4 ≤ 600) : ∃ τ, Ra (d + 4) 183 [.ref 0, .ref b, .int (yI v)] σ (.inl none) τ ∧ (pX b r σ0 t0 c x τ (l ++ pdec v) ∧ pF (pXp b r) 0 0 σ τ) := by
  have h3 := pdn_le (n := v)
  have ha := l_183a (d := d + 4) (b := b) (σ := σ) hv (pdn v) 0 (Nat.zero_add _)
  obtain ⟨τ, i1, i2⟩ := l_183b (d := d) X0 C hv (pdn v) l σ h3 (by omega) X
  refine ⟨τ, fun Q => ?_, i2⟩
  refine Iff.trans ?_ (i1 Q)
  refine Iff.trans ?_ (ha Q)
  show G (d + 4) 183 0 [some (.ref 0), some (.ref b), some (.int (yI v)), none] [] σ Q ↔ _
  simp only [s_183_0, s_183_1, Gk_v, Gk_n, xcat_nil, xcat_i, xcat_r, xcat_l, xcat_d, Nat.zero_le, Nat.reduceAdd, Nat.reduceLeDiff, true_and, and_true, ykl_i, ykl_r, ykl_n, ykl_l]
  exact Iff.rfl
/-- a row of ints that lies elsewhere -/
abbrev prw (b r : Nat) (σ : xS) (nr n : Nat) (f : Nat → Int32) : Prop := (nr < 1000000 ∧ ¬ pXp b r nr) ∧ σ.1 nr = some (pints n f)
theorem prw_keep {c x nr n : Nat} {f : Nat → Int32} (W : prw b r σ nr n f) (Z : pZ σ) (F : pF (pXp b r) c x σ τ) : prw b r τ nr n f := ⟨W.1, pF_keep Z F W.2 W.1.2⟩
theorem l_205 (X0 : pX0 b r σ0 t0) (C : yCI t0 D k E s0 s1 n B eo en) {M nr N : Nat} {f : Nat → Int32} {v : Nat → Nat} (hN : M ≤ N) (hN' : N ≤ 10) (hv : ∀ j, j < M → f j = yI (v j) ∧ v j < 10000) : ∀ m j l σ, j + m = M → l.length + 5 * m ≤ 590 → pX b r σ0 t0 c x σ l → prw b r σ nr N f → ∃ τ, Ga (d + 5) 205 6 [some (.ref 0), some (.ref b), some (.ref a), some (.int (yI M)), some (.ref nr), some (.int (yI j))] [] σ (.inl none) τ ∧ (pX b r σ0 t0 c x τ (l ++ pnm v j m) ∧ pF (pXp b r) 0 0 σ τ) := by
  intro m
  induction m with
  | zero =>
    intro j l σ hj hl X W
    have ej : j = M := by omega
    subst ej
    refine ⟨σ, fun Q => ?_, by rw [pnm, List.append_nil]; exact X, pF.rfl'⟩
    rw [s_205_6]
    simp only [s_205_7, s_205_8, s_205_21, Int32.le_refl, if_true]
  | succ m ih =>
    intro j l σ hj hl X W
    obtain ⟨h1, h2⟩ := hv j (by omega)
    have z1 : ¬ yI M ≤ yI j := fun h => absurd ((yI_le (by omega) (by omega)).mp h) (by omega)
    have z4 : yI j + 1 = yI (j + 1) := yI_add
    have i1 : yix (yI j) N := yix_I (by omega) (by omega)
    have i2 : (yI j).toNatClampNeg = j := yI_clamp (by omega)
    have e32 : ptw 16 = [32] := by decide
    have T := pTx_t (b := b) (r := r) (σ := σ) (i := 16) (by decide)
    rw [e32] at T
    obtain ⟨τ1, k1, X1, F1⟩ := m_182 (d := d) X0 C X (w := [32]) (by show l.length + 1 ≤ 600; omega) T
    have k1' : Ra (d + 4) 182 [.ref 0, .ref b, .ref 1000116] σ (.inl none) τ1 := k1
    have W1 := prw_keep W (X.Z X0) F1
    obtain ⟨τ2, k2, X2, F2⟩ := m_183 (d := d) X0 C X1 h2 (by rw [List.length_append]; show l.length + 1 + 4 ≤ 600; omega)
    have W2 := prw_keep W1 (X1.Z X0) F2
    have hd := pdec_len (n := v j)
    obtain ⟨τ, j1, j2, j3⟩ := ih (j + 1) ((l ++ [32]) ++ pdec (v j)) τ2 (by omega) (by rw [List.length_append, List.length_append]; show l.length + 1 + (pdec (v j)).length + 5 * m ≤ 590; omega) X2 W2
    have r1 : xRd τ1 nr = some (.inl (0, (N, .inl f))) := by rw [yrd_lt W1.1.1, W1.2]
    refine ⟨τ, fun Q => ?_, ?_, pF.trans F1 (pF.trans F2 j3 (P' := pXp b r) (fun _ _ q => q.elim id id)) (fun _ _ q => q.elim id id)⟩
    · refine Iff.trans ?_ (j1 Q)
      rw [s_205_6]
      simp only [s_205_7, s_205_8, s_205_9, s_205_10, s_205_11, s_205_12, s_205_13, s_205_14, s_205_15, s_205_16, s_205_17, s_205_18, s_205_19, s_205_20, z1, z4, i1, i2, h1, r1, k1' _, k2 _, if_false, hgf_s, hsel_0, hsel_1, hsel_2, hsel_3, hsel_4, hsel_5, hsel_6, hsel_7, hsel_8, hset_0, hset_1, hset_2, hset_3, hset_4, hset_5, hset_6, hset_7, hset_8, hpf_s, hcl_s, hai_s, hpi_0, hpi_1, hln_0, hln_1, List.length_cons, List.length_nil, xwr_1, xwr_2, xnew_1, xnew_n, xnew_s, xnew_z, Nat.reduceLT, ite_true, and_self, hp_8_0, hp_8_1, hn_8_1, hp_8_2, hn_8_2, hp_9_0, hp_9_1, hp_9_2, hp_9_3, hp_9_4, hp_9_5, hn_9_5, hp_9_6, hn_9_6, hp_9_7, hn_9_7, hp_10_0, hp_10_1, hp_10_2, hn_10_2, hp_10_3, hn_10_3, hp_11_0, hp_12_0, hn_12_0, hp_12_1, hp_12_2, hp_12_3, hp_12_4, hp_12_5, hn_12_5, hp_12_6, hn_12_6, hp_12_7, hp_12_8, hp_13_0, hn_13_0, hp_13_1, hp_13_2, hp_13_3, hp_14_0, hn_14_0, hp_14_1, hp_14_2, hp_14_3, xdef_8, xdef_9, xdef_10, xdef_11, xdef_12, xdef_13, xdef_14, Gk_v, Gk_n, xcat_nil, xcat_i, xcat_r, xcat_l, xcat_d, Nat.zero_le, Nat.reduceAdd, Nat.reduceLeDiff, true_and, and_true, ykl_i, ykl_r, ykl_n, ykl_l]
    · have e : l ++ pnm v j (m + 1) = ((l ++ [32]) ++ pdec (v j)) ++ pnm v (j + 1) m := by
        rw [pnm, List.append_assoc, List.append_assoc]
        rfl
      rw [e]
      exact j2
theorem m_205 (X0 : pX0 b r σ0 t0) (C : yCI t0 D k E s0 s1 n B eo en) (X : pX b r σ0 t0 c x σ l) (T : pTx b r σ a w) {M nr N : Nat} {f : Nat → Int32} {v : Nat → Nat} (hN : M ≤ N) (hN' : N ≤ 10) (hv : ∀ j, j < M → f j = yI (v j) ∧ v j < 10000) (W : prw b r σ nr N f) (hl : l.length + w.length + 5 * M ≤ 590) : ∃ τ, Ra (d + 5) 205 [.ref 0, .ref b, .ref a, .int (yI M), .ref nr] σ (.inl none) τ ∧ (pX b r σ0 t0 c x τ (l ++ (w ++ pnm v 0 M)) ∧ pF (pXp b r) 0 0 σ τ) := by
  obtain ⟨τ1, k1, X1, F1⟩ := m_182 (d := d) X0 C X (w := w) (by omega) T
  have W1 := prw_keep W (X.Z X0) F1
  obtain ⟨τ, j1, j2, j3⟩ := l_205 (d := d) (a := a) X0 C hN hN' hv M 0 (l ++ w) τ1 (Nat.zero_add _) (by rw [List.length_append]; omega) X1 W1
  refine ⟨τ, fun Q => ?_, by rw [← List.append_assoc]; exact j2, pF.trans F1 j3 (fun _ _ q => q.elim id id)⟩
  refine Iff.trans ?_ (j1 Q)
  show G (d + 5) 205 0 [some (.ref 0), some (.ref b), some (.ref a), some (.int (yI M)), some (.ref nr), none] [] σ Q ↔ _
  simp only [s_205_0, s_205_1, s_205_2, s_205_3, s_205_4, s_205_5, k1 _, Gk_v, Gk_n, xcat_nil, xcat_i, xcat_r, xcat_l, xcat_d, Nat.zero_le, Nat.reduceAdd, Nat.reduceLeDiff, true_and, and_true, ykl_i, ykl_r, ykl_n, ykl_l]
  exact Iff.rfl
end

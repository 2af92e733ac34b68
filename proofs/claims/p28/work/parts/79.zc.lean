/-! ===== texts are built: builders ===== -/
theorem yN_toInt {n : Nat} (h : n < 2147483648) : (-(yI n)).toInt = -(n : Int) := by
  rw [Int32.toInt_neg, yI_toInt h, Int.bmod_eq_of_le]
  · omega
  · omega
theorem yN_lt {n m : Nat} (h : n < 2147483648) (h' : m < 2147483648) : -(yI n) < -(yI m) ↔ m < n := by
  rw [Int32.lt_iff_toInt_lt, yN_toInt h, yN_toInt h']
  omega
theorem yN_le {n m : Nat} (h : n < 2147483648) (h' : m < 2147483648) : -(yI n) ≤ -(yI m) ↔ m ≤ n := by
  rw [Int32.le_iff_toInt_le, yN_toInt h, yN_toInt h']
  omega
theorem yN_div {n : Nat} (h : n < 2147483648) : -(yI n) / 100 = -(yI (n / 100)) := by
  apply Int32.toInt_inj.mp
  have h1 : n / 100 ≤ n := Nat.div_le_self n 100
  have hne : -(yI n) ≠ Int32.minValue := by
    intro h'
    have := congrArg Int32.toInt h'
    rw [yN_toInt h, Int32.toInt_minValue] at this
    omega
  rw [Int32.toInt_div_of_ne_left _ _ hne, yN_toInt h, yN_toInt (by omega), show (100 : Int32).toInt = 100 from rfl, Int.neg_tdiv]
  rfl
theorem yN_mod {n : Nat} : -(yI (n / 100)) * 100 - -(yI n) = yI (n % 100) := by
  have e : yI n = yI (n % 100) + yI (n / 100) * 100 := by
    rw [show (100 : Int32) = yI 100 from rfl, yI_mul, yI_add]
    exact congrArg yI (by omega)
  rw [e]
  grind
theorem pdn_lt {n k : Nat} (hn : n < 10000) (h1 : 1 ≤ k) (h4 : k ≤ 4) : n < 10 ^ k ↔ pdn n < k := by
  unfold pdn
  rcases (by omega : k = 1 ∨ (k = 2 ∨ (k = 3 ∨ k = 4))) with rfl | rfl | rfl | rfl
  · show n < 10 ↔ _
    split
    · omega
    · split
      · omega
      · split <;> omega
  · show n < 100 ↔ _
    split
    · omega
    · split
      · omega
      · split <;> omega
  · show n < 1000 ↔ _
    split
    · omega
    · split
      · omega
      · split <;> omega
  · show n < 10000 ↔ _
    split
    · omega
    · split
      · omega
      · split <;> omega
/-- a builder: its cell at a, its letters at v -/
def pSB (σ0 : xS) (c x : Nat) (σ : xS) (a v : Nat) (w : List Nat) (cap : Nat) : Prop :=
  (pF pno c x σ0 σ ∧ pZ σ) ∧ ((σ0.2.1.1 ≤ a ∧ a < 1000000) ∧ ((σ.1 a = some (.inr (14, [.ref v, .int 0, .int 0, .int (yI w.length)])) ∧ (σ0.2.1.1 ≤ v ∧ v < 1000000)) ∧ ((∃ f, σ.1 v = some (.inl (1, (cap, .inl f))) ∧ ∀ i, i < cap → f i = yI (pbt w i) ∧ pbt w i < 128) ∧ (w.length ≤ cap ∧ cap ≤ 180))))
section
variable {d : Nat} {σ0 σ τ : xS} {c x a v cap : Nat} {w : List Nat}
theorem pSB.ob (S : pSB σ0 c x σ a v w cap) : xRd σ a = some (.inr (14, [.ref v, .int 0, .int 0, .int (yI w.length)])) := (yrd_lt S.2.1.2).trans S.2.2.1.1
theorem pSB.va (S : pSB σ0 c x σ a v w cap) : v ≠ a := fun q => by
  obtain ⟨-, -, ⟨h1, -⟩, ⟨f, h2, -⟩, -⟩ := S
  rw [q, h1] at h2
  simp at h2
theorem m_155 (S : pSB σ0 c x σ a v w cap) : Ra d 155 [.ref a] σ (.inl (some (.int (yI w.length)))) σ := by
  intro Q
  have o := S.ob
  show G d 155 0 [some (.ref a)] [] σ Q ↔ _
  simp only [s_155_0, s_155_1, s_155_2, o, hgf_s, hsel_0, hsel_1, hsel_2, hsel_3, hsel_4, hsel_5, hsel_6, hsel_7, hsel_8, hset_0, hset_1, hset_2, hset_3, hset_4, hset_5, hset_6, hset_7, hset_8, hpf_s, hcl_s, hai_s, hpi_0, hpi_1, hln_0, hln_1, List.length_cons, List.length_nil, xwr_1, xwr_2, xnew_1, xnew_n, xnew_s, xnew_z, Nat.reduceLT, ite_true, and_self, hp_8_0, hp_8_1, hn_8_1, hp_8_2, hn_8_2, hp_9_0, hp_9_1, hp_9_2, hp_9_3, hp_9_4, hp_9_5, hn_9_5, hp_9_6, hn_9_6, hp_9_7, hn_9_7, hp_10_0, hp_10_1, hp_10_2, hn_10_2, hp_10_3, hn_10_3, hp_11_0, hp_12_0, hn_12_0, hp_12_1, hp_12_2, hp_12_3, hp_12_4, hp_12_5, hn_12_5, hp_12_6, hn_12_6, hp_12_7, hp_12_8, hp_13_0, hn_13_0, hp_13_1, hp_13_2, hp_13_3, hp_14_0, hn_14_0, hp_14_1, hp_14_2, hp_14_3, xdef_8, xdef_9, xdef_10, xdef_11, xdef_12, xdef_13, xdef_14, Gk_v, Gk_n, xcat_nil, xcat_i, xcat_r, xcat_l, xcat_d, Nat.zero_le, Nat.reduceAdd, Nat.reduceLeDiff, true_and, and_true, ykl_i, ykl_r, ykl_n, ykl_l]
theorem m_160 (S : pSB σ0 c x σ a v w cap) : Ra d 160 [.ref a] σ (.inl (some (.ref v))) σ := by
  intro Q
  have o := S.ob
  show G d 160 0 [some (.ref a)] [] σ Q ↔ _
  simp only [s_160_0, s_160_1, s_160_2, o, hgf_s, hsel_0, hsel_1, hsel_2, hsel_3, hsel_4, hsel_5, hsel_6, hsel_7, hsel_8, hset_0, hset_1, hset_2, hset_3, hset_4, hset_5, hset_6, hset_7, hset_8, hpf_s, hcl_s, hai_s, hpi_0, hpi_1, hln_0, hln_1, List.length_cons, List.length_nil, xwr_1, xwr_2, xnew_1, xnew_n, xnew_s, xnew_z, Nat.reduceLT, ite_true, and_self, hp_8_0, hp_8_1, hn_8_1, hp_8_2, hn_8_2, hp_9_0, hp_9_1, hp_9_2, hp_9_3, hp_9_4, hp_9_5, hn_9_5, hp_9_6, hn_9_6, hp_9_7, hn_9_7, hp_10_0, hp_10_1, hp_10_2, hn_10_2, hp_10_3, hn_10_3, hp_11_0, hp_12_0, hn_12_0, hp_12_1, hp_12_2, hp_12_3, hp_12_4, hp_12_5, hn_12_5, hp_12_6, hn_12_6, hp_12_7, hp_12_8, hp_13_0, hn_13_0, hp_13_1, hp_13_2, hp_13_3, hp_14_0, hn_14_0, hp_14_1, hp_14_2, hp_14_3, xdef_8, xdef_9, xdef_10, xdef_11, xdef_12, xdef_13, xdef_14, Gk_v, Gk_n, xcat_nil, xcat_i, xcat_r, xcat_l, xcat_d, Nat.zero_le, Nat.reduceAdd, Nat.reduceLeDiff, true_and, and_true, ykl_i, ykl_r, ykl_n, ykl_l]
theorem m_161 (S : pSB σ0 c x σ a v w cap) : Ra d 161 [.ref a] σ (.inl (some (.int 1))) σ := by
  intro Q
  have o := S.ob
  have h1 : ¬ (1 : Int32) = 0 := by decide
  show G d 161 0 [some (.ref a)] [] σ Q ↔ _
  simp only [s_161_0, s_161_1, s_161_2, s_161_3, s_161_4, s_161_5, s_161_6, s_161_7, s_161_8, o, h1, ybo_1, ne_eq, not_true_eq_false, if_false, hgf_s, hsel_0, hsel_1, hsel_2, hsel_3, hsel_4, hsel_5, hsel_6, hsel_7, hsel_8, hset_0, hset_1, hset_2, hset_3, hset_4, hset_5, hset_6, hset_7, hset_8, hpf_s, hcl_s, hai_s, hpi_0, hpi_1, hln_0, hln_1, List.length_cons, List.length_nil, xwr_1, xwr_2, xnew_1, xnew_n, xnew_s, xnew_z, Nat.reduceLT, ite_true, and_self, hp_8_0, hp_8_1, hn_8_1, hp_8_2, hn_8_2, hp_9_0, hp_9_1, hp_9_2, hp_9_3, hp_9_4, hp_9_5, hn_9_5, hp_9_6, hn_9_6, hp_9_7, hn_9_7, hp_10_0, hp_10_1, hp_10_2, hn_10_2, hp_10_3, hn_10_3, hp_11_0, hp_12_0, hn_12_0, hp_12_1, hp_12_2, hp_12_3, hp_12_4, hp_12_5, hn_12_5, hp_12_6, hn_12_6, hp_12_7, hp_12_8, hp_13_0, hn_13_0, hp_13_1, hp_13_2, hp_13_3, hp_14_0, hn_14_0, hp_14_1, hp_14_2, hp_14_3, xdef_8, xdef_9, xdef_10, xdef_11, xdef_12, xdef_13, xdef_14, Gk_v, Gk_n, xcat_nil, xcat_i, xcat_r, xcat_l, xcat_d, Nat.zero_le, Nat.reduceAdd, Nat.reduceLeDiff, true_and, and_true, ykl_i, ykl_r, ykl_n, ykl_l]
theorem m_173 (S : pSB σ0 c x σ a v w cap) : Ra (d + 1) 173 [.ref a] σ (.inl (some (.int (yI w.length)))) σ := by
  intro Q
  have o := S.ob
  show G (d + 1) 173 0 [some (.ref a)] [] σ Q ↔ _
  simp only [s_173_0, s_173_1, s_173_2, o, m_155 S _, hgf_s, hsel_0, hsel_1, hsel_2, hsel_3, hsel_4, hsel_5, hsel_6, hsel_7, hsel_8, hset_0, hset_1, hset_2, hset_3, hset_4, hset_5, hset_6, hset_7, hset_8, hpf_s, hcl_s, hai_s, hpi_0, hpi_1, hln_0, hln_1, List.length_cons, List.length_nil, xwr_1, xwr_2, xnew_1, xnew_n, xnew_s, xnew_z, Nat.reduceLT, ite_true, and_self, hp_8_0, hp_8_1, hn_8_1, hp_8_2, hn_8_2, hp_9_0, hp_9_1, hp_9_2, hp_9_3, hp_9_4, hp_9_5, hn_9_5, hp_9_6, hn_9_6, hp_9_7, hn_9_7, hp_10_0, hp_10_1, hp_10_2, hn_10_2, hp_10_3, hn_10_3, hp_11_0, hp_12_0, hn_12_0, hp_12_1, hp_12_2, hp_12_3, hp_12_4, hp_12_5, hn_12_5, hp_12_6, hn_12_6, hp_12_7, hp_12_8, hp_13_0, hn_13_0, hp_13_1, hp_13_2, hp_13_3, hp_14_0, hn_14_0, hp_14_1, hp_14_2, hp_14_3, xdef_8, xdef_9, xdef_10, xdef_11, xdef_12, xdef_13, xdef_14, Gk_v, Gk_n, xcat_nil, xcat_i, xcat_r, xcat_l, xcat_d, Nat.zero_le, Nat.reduceAdd, Nat.reduceLeDiff, true_and, and_true, ykl_i, ykl_r, ykl_n, ykl_l]
theorem m_178 {p q r : Nat} (hp : p < 100000) (hq : q < 100000) (hr : r < 100000) (h0 : 0 < p + max q r) : Ra d 178 [.int (yI p), .int (yI q), .int (yI r)] σ (.inl (some (.int (yI (p + max q r))))) σ := by
  intro Q
  have m1 : (if yI q < yI r then yI r else yI q) = yI (max q r) := by
    by_cases h : q < r
    · rw [if_pos ((yI_lt (by omega) (by omega)).mpr h), Nat.max_eq_right (by omega)]
    · rw [if_neg (fun g => h ((yI_lt (by omega) (by omega)).mp g)), Nat.max_eq_left (by omega)]
  have m2 : yI p + yI (max q r) = yI (p + max q r) := yI_add
  have hm : max q r < 100000 := by omega
  have z1 : ¬ yI (p + max q r) ≤ 0 := fun g => by
    have := (yI_le (m := 0) (by omega) (by decide)).mp g
    omega
  have z2 : ¬ (2147483639 : Int32) < yI (p + max q r) := fun g => by
    have := (yI_lt (n := 2147483639) (by decide) (by omega)).mp g
    omega
  show G d 178 0 [some (.int (yI p)), some (.int (yI q)), some (.int (yI r)), none] [] σ Q ↔ _
  simp only [s_178_0, s_178_1, s_178_2, s_178_4, s_178_5, s_178_6, s_178_7, s_178_8, s_178_9, s_178_10, s_178_11, s_178_12, s_178_13, s_178_14, s_178_15, s_178_17, s_178_3 xc_i, m1, m2, z1, z2, if_false, Gk_v, Gk_n, xcat_nil, xcat_i, xcat_r, xcat_l, xcat_d, Nat.zero_le, Nat.reduceAdd, Nat.reduceLeDiff, true_and, and_true, ykl_i, ykl_r, ykl_n, ykl_l]
theorem pshl0 {y : Int32} : y <<< ((0 : Int32) &&& 31) = y := Int32.shiftLeft_zero
theorem pshr0 {y : Int32} : y >>> ((0 : Int32) &&& 31) = y := Int32.shiftRight_zero
theorem m_157 (S : pSB σ0 c x σ a v w cap) {m : Nat} (hm : cap < m) (hm' : m < 100000) : Ra (d + 1) 157 [.ref a, .int (yI m)] σ (.inl (some (.int (yI (cap + max (m - cap) (cap + 2)))))) σ := by
  intro Q
  have o := S.ob
  obtain ⟨-, -, ⟨-, -, hv⟩, ⟨f, h2, -⟩, -, hc⟩ := S
  have o2 : xRd σ v = some (.inl (1, (cap, .inl f))) := (yrd_lt hv).trans h2
  have a1 : yI m - yI cap = yI (m - cap) := yI_sub (by omega)
  have a2 : (2 : Int32) <<< ((0 : Int32) &&& 31) = 2 := pshl0
  have a3 : yI cap + 2 = yI (cap + 2) := yI_add
  have g := m_178 (d := d) (σ := σ) (p := cap) (q := m - cap) (r := cap + 2) (by omega) (by omega) (by omega) (by omega)
  have hne : ¬ yI (cap + max (m - cap) (cap + 2)) = 2147483647 := fun e => by
    have := (yI_inj (m := 2147483647) (by omega) (by decide)).mp e
    omega
  have ec : Int32.ofNat cap = yI cap := rfl
  show G (d + 1) 157 0 [some (.ref a), some (.int (yI m)), none, none, none, none] [] σ Q ↔ _
  simp only [s_157_0, s_157_1, s_157_2, s_157_3, s_157_4, s_157_5, s_157_6, s_157_7, s_157_8, s_157_9, s_157_10, s_157_11, s_157_12, s_157_13, s_157_14, s_157_15, s_157_16, s_157_17, s_157_18, s_157_19, s_157_20, s_157_21, s_157_22, s_157_23, s_157_24, s_157_25, s_157_27, s_157_27i, s_157_31, s_157_32, s_157_33, s_157_34, s_157_35, o, o2, ec, pshl0, pshr0, a1, a3, g _, hne, ne_eq, not_false_eq_true, if_true, hgf_s, hsel_0, hsel_1, hsel_2, hsel_3, hsel_4, hsel_5, hsel_6, hsel_7, hsel_8, hset_0, hset_1, hset_2, hset_3, hset_4, hset_5, hset_6, hset_7, hset_8, hpf_s, hcl_s, hai_s, hpi_0, hpi_1, hln_0, hln_1, List.length_cons, List.length_nil, xwr_1, xwr_2, xnew_1, xnew_n, xnew_s, xnew_z, Nat.reduceLT, ite_true, and_self, hp_8_0, hp_8_1, hn_8_1, hp_8_2, hn_8_2, hp_9_0, hp_9_1, hp_9_2, hp_9_3, hp_9_4, hp_9_5, hn_9_5, hp_9_6, hn_9_6, hp_9_7, hn_9_7, hp_10_0, hp_10_1, hp_10_2, hn_10_2, hp_10_3, hn_10_3, hp_11_0, hp_12_0, hn_12_0, hp_12_1, hp_12_2, hp_12_3, hp_12_4, hp_12_5, hn_12_5, hp_12_6, hn_12_6, hp_12_7, hp_12_8, hp_13_0, hn_13_0, hp_13_1, hp_13_2, hp_13_3, hp_14_0, hn_14_0, hp_14_1, hp_14_2, hp_14_3, xdef_8, xdef_9, xdef_10, xdef_11, xdef_12, xdef_13, xdef_14, Gk_v, Gk_n, xcat_nil, xcat_i, xcat_r, xcat_l, xcat_d, Nat.zero_le, Nat.reduceAdd, Nat.reduceLeDiff, true_and, and_true, ykl_i, ykl_r, ykl_n, ykl_l]
theorem pxfit {f : Nat → Int32} {n cap : Nat} {w : List Nat} (h : ∀ i, i < cap → f i = yI (pbt w i) ∧ pbt w i < 128) (hn : n ≤ cap) : xfitB f 0 n = true := by
  unfold xfitB
  rw [List.all_eq_true]
  intro j hj
  have hj' := List.mem_range.mp hj
  obtain ⟨h1, h2⟩ := h j (by omega)
  rw [Nat.zero_add, h1]
  have : ∀ b, b < 128 → fits .byte (.int (yI b)) = true := by decide
  exact this _ h2
theorem hcp_1 {b : Nat} {sp dp m : Int32} {n0 n1 : Nat} {f g : Nat → Int32} {F : xE → Prop} : hcp b sp dp m (some (.inl (1, (n0, .inl f)))) (some (.inl (1, (n1, .inl g)))) F ↔ (¬ sp < 0 ∧ (¬ dp < 0 ∧ (¬ m < 0 ∧ (sp.toNatClampNeg + m.toNatClampNeg ≤ n0 ∧ (dp.toNatClampNeg + m.toNatClampNeg ≤ n1 ∧ xfitB f sp.toNatClampNeg m.toNatClampNeg = true))))) ∧ F (.inl (1, (n1, .inl (va_cpy f g sp.toNatClampNeg dp.toNatClampNeg m.toNatClampNeg)))) := by
  unfold hcp
  simp
theorem xc_irir {x y : Int32} {z t : Nat} : xcat [.int x, .ref z, .int y, .ref t] ≤ 8 := Nat.le_of_ble_eq_true rfl
theorem ycl00 : (0 : Int32).toNatClampNeg = 0 := rfl
theorem ynz0 : ¬ (0 : Int32) < 0 := by decide
/-- a longer row for the letters -/
theorem m_174 (S : pSB σ0 c x σ a v w cap) {n : Nat} (hn : cap < n) (hn' : n ≤ 100000) (hr : σ.2.1.1 < 900000) : ∃ f, Ra d 174 [.ref v, .int (yI n)] σ (.inl (some (.ref σ.2.1.1))) (xnew σ (.inl (1, (n, .inl f))) n) ∧ ∀ i, i < n → f i = yI (pbt w i) ∧ pbt w i < 128 := by
  obtain ⟨⟨F, Z⟩, -, ⟨-, -, hv⟩, ⟨f, h2, h3⟩, hw, hc⟩ := S
  have hvl := pZ_lt Z h2
  refine ⟨va_cpy f (fun _ => 0) 0 0 cap, fun Q => ?_, fun i hi => ?_⟩
  · have o2 : xRd σ v = some (.inl (1, (cap, .inl f))) := (yrd_lt hv).trans h2
    have o3 : ∀ e m, xRd (xnew σ e m) v = some (.inl (1, (cap, .inl f))) := fun e m => prd_new Z hv o2
    have ne : ¬ yI n = yI cap := fun e => by
      have := (yI_inj (by omega) (by omega)).mp e
      omega
    have n1 : ¬ yI n < 0 := yI_nneg (by omega)
    have n2 : (yI n).toNatClampNeg = n := yI_clamp (by omega)
    have m1 : (if yI n < yI cap then yI n else yI cap) = yI cap := if_neg (fun g => by
      have := (yI_lt (by omega) (by omega)).mp g
      omega)
    have k1 : ¬ yI cap < 0 := yI_nneg (by omega)
    have k2 : (yI cap).toNatClampNeg = cap := yI_clamp (by omega)
    have r9 : σ.2.1.1 < 1000000 := by omega
    have fit := pxfit h3 (Nat.le_refl cap)
    have le1 : 0 + cap ≤ n := by omega
    have le2 : 0 + cap ≤ cap := by omega
    have ec : Int32.ofNat cap = yI cap := rfl
    show G d 174 0 [some (.ref v), some (.int (yI n)), none] [] σ Q ↔ _
    simp only [s_174_0, s_174_1, s_174_2, s_174_3, s_174_4, s_174_5, s_174_6, s_174_7, s_174_8, s_174_9, s_174_11, s_174_12, s_174_13, s_174_14, s_174_15, s_174_16, s_174_17, s_174_19, s_174_20, s_174_21, s_174_10 r9, s_174_18 xc_irir, o2, o3, ec, ne, n1, n2, m1, k1, k2, r9, hr, hn', fit, le1, le2, hcp_1, ycl00, ynz0, pnew_at, pwr_nw, ne_eq, not_false_eq_true, if_true, hgf_s, hsel_0, hsel_1, hsel_2, hsel_3, hsel_4, hsel_5, hsel_6, hsel_7, hsel_8, hset_0, hset_1, hset_2, hset_3, hset_4, hset_5, hset_6, hset_7, hset_8, hpf_s, hcl_s, hai_s, hpi_0, hpi_1, hln_0, hln_1, List.length_cons, List.length_nil, xwr_1, xwr_2, xnew_1, xnew_n, xnew_s, xnew_z, Nat.reduceLT, ite_true, and_self, hp_8_0, hp_8_1, hn_8_1, hp_8_2, hn_8_2, hp_9_0, hp_9_1, hp_9_2, hp_9_3, hp_9_4, hp_9_5, hn_9_5, hp_9_6, hn_9_6, hp_9_7, hn_9_7, hp_10_0, hp_10_1, hp_10_2, hn_10_2, hp_10_3, hn_10_3, hp_11_0, hp_12_0, hn_12_0, hp_12_1, hp_12_2, hp_12_3, hp_12_4, hp_12_5, hn_12_5, hp_12_6, hn_12_6, hp_12_7, hp_12_8, hp_13_0, hn_13_0, hp_13_1, hp_13_2, hp_13_3, hp_14_0, hn_14_0, hp_14_1, hp_14_2, hp_14_3, xdef_8, xdef_9, xdef_10, xdef_11, xdef_12, xdef_13, xdef_14, Gk_v, Gk_n, xcat_nil, xcat_i, xcat_r, xcat_l, xcat_d, Nat.zero_le, Nat.reduceAdd, Nat.reduceLeDiff, true_and, and_true, ykl_i, ykl_r, ykl_n, ykl_l]
  · unfold va_cpy
    rw [Nat.zero_add]
    by_cases h : i < cap
    · rw [if_pos ⟨Nat.zero_le _, h⟩, Nat.zero_add, Nat.sub_zero]
      exact h3 i h
    · rw [if_neg (fun q => h q.2), pbt_hi (by omega)]
      exact ⟨rfl, by decide⟩
/-- room for m letters -/
theorem m_156 (S : pSB σ0 c x σ a v w cap) {m : Nat} (hm : m ≤ 89) (hr : σ.2.1.1 + 1 < 900000) : ∃ τ v' cap', Ra (d + 2) 156 [.ref a, .int (yI m)] σ (.inl none) τ ∧ (pSB σ0 (c + 1) (x + 180) τ a v' w cap' ∧ (m ≤ cap' ∧ ((v' = v ∨ σ.2.1.1 ≤ v') ∧ ((∀ b e, σ.1 b = some e → b ≠ a → τ.1 b = some e) ∧ σ.2.1.1 ≤ τ.2.1.1)))) := by
  have S0 := S
  have o := S.ob
  obtain ⟨⟨F, Z⟩, ⟨ha0, ha⟩, ⟨h1, hv0, hv⟩, ⟨f, h2, h3⟩, hw, hc⟩ := S
  have hva := S0.va
  have hal := pZ_lt Z h1
  have o2 : xRd σ v = some (.inl (1, (cap, .inl f))) := (yrd_lt hv).trans h2
  have ec : Int32.ofNat cap = yI cap := rfl
  by_cases hle : m ≤ cap
  · refine ⟨σ, v, cap, fun Q => ?_, ⟨⟨F.mono (fun _ _ q => q) (by omega) (by omega), Z⟩, ⟨ha0, ha⟩, ⟨h1, hv0, hv⟩, ⟨f, h2, h3⟩, hw, hc⟩, hle, Or.inl rfl, fun b e h _ => h, Nat.le_refl _⟩
    have z : yI m - yI cap ≤ 0 := by
      rw [Int32.le_iff_toInt_le]
      have h5 : ∀ a b : Nat, a < 1000 → b < 1000 → a ≤ b → (yI a - yI b).toInt ≤ (0 : Int32).toInt := fun a b g1 g2 g3 => by
        rw [Int32.toInt_sub, yI_toInt (by omega), yI_toInt (by omega), Int.bmod_eq_of_le (by omega) (by omega)]
        show (a : Int) - b ≤ 0
        omega
      exact h5 m cap (by omega) (by omega) hle
    show G (d + 2) 156 0 [some (.ref a), some (.int (yI m)), none] [] σ Q ↔ _
    simp only [s_156_0, s_156_1, s_156_2, s_156_3, s_156_4, s_156_5, s_156_6, s_156_7, s_156_8, s_156_9, s_156_10, o, o2, ec, pshr0, z, if_true, hgf_s, hsel_0, hsel_1, hsel_2, hsel_3, hsel_4, hsel_5, hsel_6, hsel_7, hsel_8, hset_0, hset_1, hset_2, hset_3, hset_4, hset_5, hset_6, hset_7, hset_8, hpf_s, hcl_s, hai_s, hpi_0, hpi_1, hln_0, hln_1, List.length_cons, List.length_nil, xwr_1, xwr_2, xnew_1, xnew_n, xnew_s, xnew_z, Nat.reduceLT, ite_true, and_self, hp_8_0, hp_8_1, hn_8_1, hp_8_2, hn_8_2, hp_9_0, hp_9_1, hp_9_2, hp_9_3, hp_9_4, hp_9_5, hn_9_5, hp_9_6, hn_9_6, hp_9_7, hn_9_7, hp_10_0, hp_10_1, hp_10_2, hn_10_2, hp_10_3, hn_10_3, hp_11_0, hp_12_0, hn_12_0, hp_12_1, hp_12_2, hp_12_3, hp_12_4, hp_12_5, hn_12_5, hp_12_6, hn_12_6, hp_12_7, hp_12_8, hp_13_0, hn_13_0, hp_13_1, hp_13_2, hp_13_3, hp_14_0, hn_14_0, hp_14_1, hp_14_2, hp_14_3, xdef_8, xdef_9, xdef_10, xdef_11, xdef_12, xdef_13, xdef_14, Gk_v, Gk_n, xcat_nil, xcat_i, xcat_r, xcat_l, xcat_d, Nat.zero_le, Nat.reduceAdd, Nat.reduceLeDiff, true_and, and_true, ykl_i, ykl_r, ykl_n, ykl_l]
    simp only [s_156_22]
  · have a1 : yI m - yI cap = yI (m - cap) := yI_sub (by omega)
    have z : ¬ yI (m - cap) ≤ 0 := fun g => by
      have := (yI_le (m := 0) (by omega) (by decide)).mp g
      omega
    obtain ⟨n, hn⟩ : ∃ n, n = cap + max (m - cap) (cap + 2) := ⟨_, rfl⟩
    have g1 := m_157 (d := d) S0 (m := m) (by omega) (by omega)
    rw [← hn] at g1
    obtain ⟨f', g2, f2⟩ := m_174 (d := d + 1) S0 (n := n) (by omega) (by omega) (by omega)
    have Z1 := pZ_new (e := .inl (1, (n, .inl f'))) (m := n) Z
    have F1 := pF_al (e := .inl (1, (n, .inl f'))) (m := n) F
    have b1 : (xnew σ (.inl (1, (n, .inl f'))) n).1 a = some (.inr (14, [.ref v, .int 0, .int 0, .int (yI w.length)])) := by rw [xnew_1, if_neg (by omega), h1]
    have b2 : (xnew σ (.inl (1, (n, .inl f'))) n).1 σ.2.1.1 = some (.inl (1, (n, .inl f'))) := pnew_at
    have b3 : ∀ b e, σ.1 b = some e → (xnew σ (.inl (1, (n, .inl f'))) n).1 b = some e := fun b e h => by
      have := pZ_lt Z h
      rw [xnew_1, if_neg (by omega), h]
    have x1 : (xnew σ (.inl (1, (n, .inl f'))) n).2.1.1 = σ.2.1.1 + 1 := rfl
    obtain ⟨σ1, e1⟩ : ∃ σ1, σ1 = xnew σ (.inl (1, (n, .inl f'))) n := ⟨_, rfl⟩
    rw [← e1] at Z1 F1 b1 b2 g2 b3 x1
    have hs0 := F.2.2.1.1
    refine ⟨xwr σ1 a (.inr (14, [.ref σ.2.1.1, .int 0, .int 0, .int (yI w.length)])), σ.2.1.1, n, fun Q => ?_, ⟨⟨(pF_hi F1 Z1 b1 ha0).mono (fun _ _ q => q) (by omega) (by omega), pZ_wr Z1 b1⟩, ⟨ha0, ha⟩, ⟨pwr_at, by omega, by omega⟩, ⟨f', by rw [xwr_1, if_neg (by omega), b2], f2⟩, by omega, by omega⟩, by omega, Or.inr (Nat.le_refl _), fun b e h hb => by rw [xwr_1, if_neg hb]; exact b3 b e h, by show σ.2.1.1 ≤ σ1.2.1.1; omega⟩
    have g2' : Ra (d + 1) 174 [.ref v, .int (yI n)] σ (.inl (some (.ref σ.2.1.1))) σ1 := g2
    show G (d + 2) 156 0 [some (.ref a), some (.int (yI m)), none] [] σ Q ↔ _
    simp only [s_156_0, s_156_1, s_156_2, s_156_3, s_156_4, s_156_5, s_156_6, s_156_7, s_156_8, s_156_9, s_156_10, s_156_11, s_156_12, s_156_13, s_156_14, s_156_15, s_156_16, s_156_17, s_156_18, s_156_19, s_156_20, s_156_21, s_156_22, o, o2, ec, pshr0, pshl0, a1, z, g1 _, g2' _, ha, b1, if_false, hgf_s, hsel_0, hsel_1, hsel_2, hsel_3, hsel_4, hsel_5, hsel_6, hsel_7, hsel_8, hset_0, hset_1, hset_2, hset_3, hset_4, hset_5, hset_6, hset_7, hset_8, hpf_s, hcl_s, hai_s, hpi_0, hpi_1, hln_0, hln_1, List.length_cons, List.length_nil, xwr_1, xwr_2, xnew_1, xnew_n, xnew_s, xnew_z, Nat.reduceLT, ite_true, and_self, hp_8_0, hp_8_1, hn_8_1, hp_8_2, hn_8_2, hp_9_0, hp_9_1, hp_9_2, hp_9_3, hp_9_4, hp_9_5, hn_9_5, hp_9_6, hn_9_6, hp_9_7, hn_9_7, hp_10_0, hp_10_1, hp_10_2, hn_10_2, hp_10_3, hn_10_3, hp_11_0, hp_12_0, hn_12_0, hp_12_1, hp_12_2, hp_12_3, hp_12_4, hp_12_5, hn_12_5, hp_12_6, hn_12_6, hp_12_7, hp_12_8, hp_13_0, hn_13_0, hp_13_1, hp_13_2, hp_13_3, hp_14_0, hn_14_0, hp_14_1, hp_14_2, hp_14_3, xdef_8, xdef_9, xdef_10, xdef_11, xdef_12, xdef_13, xdef_14, Gk_v, Gk_n, xcat_nil, xcat_i, xcat_r, xcat_l, xcat_d, Nat.zero_le, Nat.reduceAdd, Nat.reduceLeDiff, true_and, and_true, ykl_i, ykl_r, ykl_n, ykl_l]
theorem m_169 (h : σ.1 a = some (.inr (14, xdef 14))) (ha0 : σ0.2.1.1 ≤ a) (ha : a < 1000000) (F : pF pno c x σ0 σ) (Z : pZ σ) (hr : σ.2.1.1 < 900000) : ∃ τ v, Ra (d + 1) 169 [.ref a] σ (.inl none) τ ∧ (pSB σ0 (c + 1) (x + 16) τ a v [] 16 ∧ (σ.2.1.1 ≤ v ∧ (σ.2.1.1 ≤ τ.2.1.1 ∧ ∀ b e, σ.1 b = some e → b ≠ a → τ.1 b = some e))) := by
  have hal := pZ_lt Z h
  have Z1 := pZ_new (e := .inl (1, (16, .inl (fun _ => 0)))) (m := 16) Z
  have F1 := pF_al (e := .inl (1, (16, .inl (fun _ => 0)))) (m := 16) F
  have b1 : (xnew σ (.inl (1, (16, .inl (fun _ => 0)))) 16).1 a = some (.inr (14, xdef 14)) := by rw [xnew_1, if_neg (by omega), h]
  have b2 : (xnew σ (.inl (1, (16, .inl (fun _ => 0)))) 16).1 σ.2.1.1 = some (.inl (1, (16, .inl (fun _ => 0)))) := pnew_at
  have b3 : ∀ b e, σ.1 b = some e → (xnew σ (.inl (1, (16, .inl (fun _ => 0)))) 16).1 b = some e := fun b e h => by
    have := pZ_lt Z h
    rw [xnew_1, if_neg (by omega), h]
  have x1 : (xnew σ (.inl (1, (16, .inl (fun _ => 0)))) 16).2.1.1 = σ.2.1.1 + 1 := rfl
  obtain ⟨σ1, e1⟩ : ∃ σ1, σ1 = xnew σ (.inl (1, (16, .inl (fun _ => 0)))) 16 := ⟨_, rfl⟩
  rw [← e1] at Z1 F1 b1 b2 b3 x1
  have hs0 := F.2.2.1.1
  refine ⟨xwr σ1 a (.inr (14, [.ref σ.2.1.1, .int 0, .int 0, .int 0])), σ.2.1.1, fun Q => ?_, ⟨⟨pF_hi F1 Z1 b1 ha0, pZ_wr Z1 b1⟩, ⟨ha0, ha⟩, ⟨pwr_at, by omega, by omega⟩, ⟨fun _ => 0, by rw [xwr_1, if_neg (by omega), b2], fun i _ => ⟨by rw [pbt_hi (Nat.zero_le _)]; rfl, by rw [pbt_hi (Nat.zero_le _)]; decide⟩⟩, Nat.zero_le _, by decide⟩, Nat.le_refl _, by show σ.2.1.1 ≤ σ1.2.1.1; omega, fun b e h hb => by rw [xwr_1, if_neg hb]; exact b3 b e h⟩
  have o : xRd σ a = some (.inr (14, xdef 14)) := (yrd_lt ha).trans h
  have b1' : σ1.1 a = some (.inr (14, [.null, .int 0, .int 0, .int 0])) := b1
  have n1 : ¬ (16 : Int32) < 0 := by decide
  have n2 : (16 : Int32).toNatClampNeg = 16 := rfl
  have n3 : (16 : Nat) ≤ 100000 := by decide
  have h1 : ¬ (1 : Int32) = 0 := by decide
  have g154 : ∀ Q', Cl d 154 [.ref a, .int 16] σ Q' ↔ Q' (.inl none) (xwr σ1 a (.inr (14, [.ref σ.2.1.1, .int 0, .int 0, .int 0]))) := by
    intro Q'
    show G d 154 0 [some (.ref a), some (.int 16)] [] σ Q' ↔ _
    simp only [s_154_0, s_154_1, s_154_2, s_154_3, s_154_4, s_154_5, s_154_6, ha, n1, n2, n3, h1, hr, not_false_eq_true, if_false, hgf_s, hsel_0, hsel_1, hsel_2, hsel_3, hsel_4, hsel_5, hsel_6, hsel_7, hsel_8, hset_0, hset_1, hset_2, hset_3, hset_4, hset_5, hset_6, hset_7, hset_8, hpf_s, hcl_s, hai_s, hpi_0, hpi_1, hln_0, hln_1, List.length_cons, List.length_nil, xwr_1, xwr_2, xnew_1, xnew_n, xnew_s, xnew_z, Nat.reduceLT, ite_true, and_self, hp_8_0, hp_8_1, hn_8_1, hp_8_2, hn_8_2, hp_9_0, hp_9_1, hp_9_2, hp_9_3, hp_9_4, hp_9_5, hn_9_5, hp_9_6, hn_9_6, hp_9_7, hn_9_7, hp_10_0, hp_10_1, hp_10_2, hn_10_2, hp_10_3, hn_10_3, hp_11_0, hp_12_0, hn_12_0, hp_12_1, hp_12_2, hp_12_3, hp_12_4, hp_12_5, hn_12_5, hp_12_6, hn_12_6, hp_12_7, hp_12_8, hp_13_0, hn_13_0, hp_13_1, hp_13_2, hp_13_3, hp_14_0, hn_14_0, hp_14_1, hp_14_2, hp_14_3, xdef_8, xdef_9, xdef_10, xdef_11, xdef_12, xdef_13, xdef_14, Gk_v, Gk_n, xcat_nil, xcat_i, xcat_r, xcat_l, xcat_d, Nat.zero_le, Nat.reduceAdd, Nat.reduceLeDiff, true_and, and_true, ykl_i, ykl_r, ykl_n, ykl_l]
    rw [← e1]
    simp only [s_154_7, s_154_8, s_154_9, s_154_10, s_154_11, s_154_12, s_154_13, s_154_15, s_154_16, s_154_17, s_154_18, s_154_19, ha, b1', pwr_at, pwr_wr, hgf_s, hsel_0, hsel_1, hsel_2, hsel_3, hsel_4, hsel_5, hsel_6, hsel_7, hsel_8, hset_0, hset_1, hset_2, hset_3, hset_4, hset_5, hset_6, hset_7, hset_8, hpf_s, hcl_s, hai_s, hpi_0, hpi_1, hln_0, hln_1, List.length_cons, List.length_nil, xwr_1, xwr_2, xnew_1, xnew_n, xnew_s, xnew_z, Nat.reduceLT, ite_true, and_self, hp_8_0, hp_8_1, hn_8_1, hp_8_2, hn_8_2, hp_9_0, hp_9_1, hp_9_2, hp_9_3, hp_9_4, hp_9_5, hn_9_5, hp_9_6, hn_9_6, hp_9_7, hn_9_7, hp_10_0, hp_10_1, hp_10_2, hn_10_2, hp_10_3, hn_10_3, hp_11_0, hp_12_0, hn_12_0, hp_12_1, hp_12_2, hp_12_3, hp_12_4, hp_12_5, hn_12_5, hp_12_6, hn_12_6, hp_12_7, hp_12_8, hp_13_0, hn_13_0, hp_13_1, hp_13_2, hp_13_3, hp_14_0, hn_14_0, hp_14_1, hp_14_2, hp_14_3, xdef_8, xdef_9, xdef_10, xdef_11, xdef_12, xdef_13, xdef_14, Gk_v, Gk_n, xcat_nil, xcat_i, xcat_r, xcat_l, xcat_d, Nat.zero_le, Nat.reduceAdd, Nat.reduceLeDiff, true_and, and_true, ykl_i, ykl_r, ykl_n, ykl_l]
  show G (d + 1) 169 0 [some (.ref a)] [] σ Q ↔ _
  simp only [s_169_0, s_169_1, s_169_2, s_169_3, o, g154 _, hgf_s, hsel_0, hsel_1, hsel_2, hsel_3, hsel_4, hsel_5, hsel_6, hsel_7, hsel_8, hset_0, hset_1, hset_2, hset_3, hset_4, hset_5, hset_6, hset_7, hset_8, hpf_s, hcl_s, hai_s, hpi_0, hpi_1, hln_0, hln_1, List.length_cons, List.length_nil, xwr_1, xwr_2, xnew_1, xnew_n, xnew_s, xnew_z, Nat.reduceLT, ite_true, and_self, hp_8_0, hp_8_1, hn_8_1, hp_8_2, hn_8_2, hp_9_0, hp_9_1, hp_9_2, hp_9_3, hp_9_4, hp_9_5, hn_9_5, hp_9_6, hn_9_6, hp_9_7, hn_9_7, hp_10_0, hp_10_1, hp_10_2, hn_10_2, hp_10_3, hn_10_3, hp_11_0, hp_12_0, hn_12_0, hp_12_1, hp_12_2, hp_12_3, hp_12_4, hp_12_5, hn_12_5, hp_12_6, hn_12_6, hp_12_7, hp_12_8, hp_13_0, hn_13_0, hp_13_1, hp_13_2, hp_13_3, hp_14_0, hn_14_0, hp_14_1, hp_14_2, hp_14_3, xdef_8, xdef_9, xdef_10, xdef_11, xdef_12, xdef_13, xdef_14, Gk_v, Gk_n, xcat_nil, xcat_i, xcat_r, xcat_l, xcat_d, Nat.zero_le, Nat.reduceAdd, Nat.reduceLeDiff, true_and, and_true, ykl_i, ykl_r, ykl_n, ykl_l]
end

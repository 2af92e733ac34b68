/-! ===== the law's own: random numbers, colors, lamps ===== -/
abbrev prn (s : Int32) : Int32 := 1103515245 * s + 12345
/-- the number below b that a generator gives -/
def prv (s : Int32) (b : Nat) : Nat := ((prn s).toUInt32.toNat / 65536) % b
theorem prv_lt {s : Int32} {b : Nat} (h : 1 ≤ b) : prv s b < b := Nat.mod_lt _ h
theorem yush16 (x : Int32) : (x.toUInt32 >>> ((16 : Int32).toUInt32 &&& 31)).toInt32 = yI (x.toUInt32.toNat / 65536) := by
  have h1 : ((16 : Int32).toUInt32 &&& 31) = 16 := by decide
  rw [h1]
  apply Int32.toBitVec_inj.mp
  apply BitVec.eq_of_toNat_eq
  have h3 : x.toUInt32.toNat < 4294967296 := x.toUInt32.toBitVec.isLt
  have h2 : (x.toUInt32 >>> 16).toNat = x.toUInt32.toNat / 65536 := by
    rw [UInt32.toNat_shiftRight]
    show x.toUInt32.toNat >>> 16 = _
    rw [Nat.shiftRight_eq_div_pow]
  show (x.toUInt32 >>> 16).toNat = (BitVec.ofNat 32 (x.toUInt32.toNat / 65536)).toNat
  rw [h2, BitVec.toNat_ofNat]
  omega
theorem yI_mod {a b : Nat} (ha : a < 2147483648) (hb : b < 2147483648) (h1 : 1 ≤ b) : yI a - yI a / yI b * yI b = yI (a % b) := by
  rw [yI_div ha hb]
  have h2 : yI (a / b) * yI b = yI (a / b * b) := by
    show Int32.ofNat _ * Int32.ofNat _ = Int32.ofNat _
    rw [Int32.ofNat_mul]
  rw [h2]
  have h3 : yI a = yI (a % b) + yI (a / b * b) := by
    rw [yI_add]
    congr 1
    have := Nat.div_add_mod a b
    rw [Nat.mul_comm] at this
    omega
  rw [h3, Int32.add_sub_cancel]
section
variable {d : Nat} {σ : xS}
theorem m_131 {r : Nat} (hr : r < 1000000) {s : Int32} (h : σ.1 r = some (.inr (11, [.int s]))) {b : Nat} (h1 : 1 ≤ b) (hb : b < 2147483648) : Ra d 131 [.ref r, .int (yI b)] σ (.inl (some (.int (yI (prv s b))))) (xwr σ r (.inr (11, [.int (prn s)]))) := by
  intro Q
  have h0 : xRd σ r = some (.inr (11, [.int s])) := by rw [yrd_lt hr, h]
  have h2 : xRd (xwr σ r (.inr (11, [.int (prn s)]))) r = some (.inr (11, [.int (prn s)])) := by rw [yrd_lt hr, xwr_1, if_pos rfl]
  have h3 := yush16 (prn s)
  have hlt : (prn s).toUInt32.toNat / 65536 < 2147483648 := by
    have h9 : (prn s).toUInt32.toNat < 4294967296 := (prn s).toUInt32.toBitVec.isLt
    omega
  have h4 := yI_mod hlt hb h1
  have hbn : ¬ yI b = 0 := fun q => by
    have := (yI_inj (n := b) (m := 0) hb (by decide)).mp q
    omega
  show G d 131 0 [some (.ref r), some (.int (yI b))] [] σ Q ↔ _
  have e : ∀ (x : Int32), x * 1103515245 = 1103515245 * x := fun x => Int32.mul_comm _ _
  simp only [s_131_0, s_131_1, s_131_2, s_131_3, s_131_4, s_131_5, s_131_6, s_131_7, s_131_8, s_131_9, s_131_10, s_131_11, s_131_12, s_131_13, s_131_14, h0, h, hr, hgf_s, hsel_0, hsel_1, hsel_2, hsel_3, hsel_4, hsel_5, hsel_6, hsel_7, hsel_8, hset_0, hset_1, hset_2, hset_3, hset_4, hset_5, hset_6, hset_7, hset_8, hpf_s, hcl_s, hai_s, hpi_0, hpi_1, hln_0, hln_1, List.length_cons, List.length_nil, xwr_1, xwr_2, xnew_1, xnew_n, xnew_s, xnew_z, Nat.reduceLT, ite_true, and_self, hp_8_0, hp_8_1, hn_8_1, hp_8_2, hn_8_2, hp_9_0, hp_9_1, hp_9_2, hp_9_3, hp_9_4, hp_9_5, hn_9_5, hp_9_6, hn_9_6, hp_9_7, hn_9_7, hp_10_0, hp_10_1, hp_10_2, hn_10_2, hp_10_3, hn_10_3, hp_11_0, hp_12_0, hn_12_0, hp_12_1, hp_12_2, hp_12_3, hp_12_4, hp_12_5, hn_12_5, hp_12_6, hn_12_6, hp_12_7, hp_12_8, hp_13_0, hn_13_0, hp_13_1, hp_13_2, hp_13_3, hp_14_0, hn_14_0, hp_14_1, hp_14_2, hp_14_3, xdef_8, xdef_9, xdef_10, xdef_11, xdef_12, xdef_13, xdef_14, Gk_v, Gk_n, xcat_nil, xcat_i, xcat_r, xcat_l, xcat_d, Nat.zero_le, Nat.reduceAdd, Nat.reduceLeDiff, true_and, and_true, ykl_i, ykl_r, ykl_n, ykl_l]
  simp only [h2, h3, s_131_0, s_131_1, s_131_2, s_131_3, s_131_4, s_131_5, s_131_6, s_131_7, s_131_8, s_131_9, s_131_10, s_131_11, s_131_12, s_131_14, hgf_s, hsel_0, hsel_1, hsel_2, hsel_3, hsel_4, hsel_5, hsel_6, hsel_7, hsel_8, hset_0, hset_1, hset_2, hset_3, hset_4, hset_5, hset_6, hset_7, hset_8, hpf_s, hcl_s, hai_s, hpi_0, hpi_1, hln_0, hln_1, List.length_cons, List.length_nil, xwr_1, xwr_2, xnew_1, xnew_n, xnew_s, xnew_z, Nat.reduceLT, ite_true, and_self, hp_8_0, hp_8_1, hn_8_1, hp_8_2, hn_8_2, hp_9_0, hp_9_1, hp_9_2, hp_9_3, hp_9_4, hp_9_5, hn_9_5, hp_9_6, hn_9_6, hp_9_7, hn_9_7, hp_10_0, hp_10_1, hp_10_2, hn_10_2, hp_10_3, hn_10_3, hp_11_0, hp_12_0, hn_12_0, hp_12_1, hp_12_2, hp_12_3, hp_12_4, hp_12_5, hn_12_5, hp_12_6, hn_12_6, hp_12_7, hp_12_8, hp_13_0, hn_13_0, hp_13_1, hp_13_2, hp_13_3, hp_14_0, hn_14_0, hp_14_1, hp_14_2, hp_14_3, xdef_8, xdef_9, xdef_10, xdef_11, xdef_12, xdef_13, xdef_14, Gk_v, Gk_n, xcat_nil, xcat_i, xcat_r, xcat_l, xcat_d, Nat.zero_le, Nat.reduceAdd, Nat.reduceLeDiff, true_and, and_true, ykl_i, ykl_r, ykl_n, ykl_l]
  rw [s_131_13 hbn, h4, s_131_14]
  exact Iff.rfl
end
theorem yI_ch {i j : Nat} (hi : i < 2147483648) (hj : j < 31) : (yI i >>> (yI j &&& 31)) &&& 255 = yI (i / 2 ^ j % 256) := by
  have e1 : (yI j &&& 31) = yI j := by
    apply Int32.toBitVec_inj.mp
    rw [Int32.toBitVec_and, yI_bv]
    apply BitVec.eq_of_toNat_eq
    rw [BitVec.toNat_and, BitVec.toNat_ofNat]
    show j % 2 ^ 32 &&& (2 ^ 5 - 1) = j % 2 ^ 32
    rw [Nat.and_two_pow_sub_one_eq_mod]
    omega
  have hs : (yI j).toBitVec.smod 32 = BitVec.ofNat 32 j := by
    rw [yI_bv]
    apply BitVec.eq_of_toInt_eq
    rw [BitVec.toInt_smod]
    have h1 : (BitVec.ofNat 32 j).toInt = j := by
      rw [BitVec.toInt_ofNat', Int.bmod_eq_of_le] <;> omega
    have h2 : (32 : BitVec 32).toInt = 32 := by decide
    rw [h1, h2]
    rw [Int.fmod_eq_emod_of_nonneg _ (by decide)]
    omega
  have hm : (BitVec.ofNat 32 i).msb = false := by
    rw [BitVec.msb_eq_false_iff_two_mul_lt, BitVec.toNat_ofNat]
    omega
  rw [e1]
  apply Int32.toBitVec_inj.mp
  apply BitVec.eq_of_toNat_eq
  rw [Int32.toBitVec_and, Int32.toBitVec_shiftRight, hs, yI_bv, BitVec.toNat_and, BitVec.sshiftRight', BitVec.sshiftRight_eq_of_msb_false hm, BitVec.toNat_ushiftRight, BitVec.toNat_ofNat, BitVec.toNat_ofNat]
  rw [Nat.mod_eq_of_lt (a := i) (by omega), Nat.mod_eq_of_lt (a := j) (by omega), Nat.shiftRight_eq_div_pow]
  show i / 2 ^ j &&& (2 ^ 8 - 1) = (BitVec.ofNat 32 (i / 2 ^ j % 256)).toNat
  rw [Nat.and_two_pow_sub_one_eq_mod, BitVec.toNat_ofNat]
  omega
/-- a packed color -/
abbrev pcol (x : Int32) : Prop := ∃ m : Nat, m < 16777216 ∧ x = yI m
theorem yb8_I {m j : Nat} (hm : m < 2147483648) (hj : j < 31) : yb8 (yI m) (yI j) = m / 2 ^ j % 256 := by
  unfold yb8
  rw [yI_ch hm hj]
  exact yI_clamp (by omega)
theorem pcol_eq {x : Int32} (h : pcol x) : x = yI (65536 * yb8 x 16 + 256 * yb8 x 8 + yb8 x 0) := by
  obtain ⟨m, hm, rfl⟩ := h
  have h1 : yb8 (yI m) 16 = m / 2 ^ 16 % 256 := yb8_I (j := 16) (by omega) (by decide)
  have h2 : yb8 (yI m) 8 = m / 2 ^ 8 % 256 := yb8_I (j := 8) (by omega) (by decide)
  have h3 : yb8 (yI m) 0 = m / 2 ^ 0 % 256 := yb8_I (j := 0) (by omega) (by decide)
  rw [h1, h2, h3]
  congr 1
  omega
theorem pcol_of {r g b : Nat} (hr : r < 256) (hg : g < 256) (hb : b < 256) : pcol (yI (65536 * r + 256 * g + b)) ∧ (yb8 (yI (65536 * r + 256 * g + b)) 16 = r ∧ (yb8 (yI (65536 * r + 256 * g + b)) 8 = g ∧ yb8 (yI (65536 * r + 256 * g + b)) 0 = b)) := by
  refine ⟨⟨_, by omega, rfl⟩, ?_, ?_, ?_⟩
  · rw [show (16 : Int32) = yI 16 from rfl, yb8_I (by omega) (by decide)]; omega
  · rw [show (8 : Int32) = yI 8 from rfl, yb8_I (by omega) (by decide)]; omega
  · rw [show (0 : Int32) = yI 0 from rfl, yb8_I (by omega) (by decide)]; omega
/-- a color's three channels in a row of ints -/
abbrev pC (σ : xS) (a : Nat) (x : Int32) : Prop := a < 1000000 ∧ ∃ c : Nat → Int32, σ.1 a = some (.inl (0, (3, .inl c))) ∧ (c 0 = yI (yb8 x 16) ∧ (c 1 = yI (yb8 x 8) ∧ c 2 = yI (yb8 x 0)))
section
variable {d : Nat} {σ : xS}
theorem yix3_0 : yix 0 3 := by unfold yix; decide
theorem yix3_1 : yix 1 3 := by unfold yix; decide
theorem yix3_2 : yix 2 3 := by unfold yix; decide
theorem ycl_0 : (0 : Int32).toNatClampNeg = 0 := rfl
theorem ycl_1 : (1 : Int32).toNatClampNeg = 1 := rfl
theorem ycl_2 : (2 : Int32).toNatClampNeg = 2 := rfl
theorem m_204 {a : Nat} {x : Int32} (h : pC σ a x) (hx : pcol x) : Ra d 204 [.ref a] σ (.inl (some (.int x))) σ := by
  intro Q
  obtain ⟨ha, c, h0, h1, h2, h3⟩ := h
  have hr : xRd σ a = some (.inl (0, (3, .inl c))) := by rw [yrd_lt ha, h0]
  have e : (yI (yb8 x 16) * 256 + yI (yb8 x 8)) * 256 + yI (yb8 x 0) = x := by
    have e1 : yI (yb8 x 16) * 256 = yI (yb8 x 16 * 256) := (Int32.ofNat_mul _ 256).symm
    have e2 : yI (yb8 x 16 * 256 + yb8 x 8) * 256 = yI ((yb8 x 16 * 256 + yb8 x 8) * 256) := (Int32.ofNat_mul _ 256).symm
    rw [e1, yI_add, e2, yI_add]
    have := pcol_eq hx
    rw [this]
    congr 1
    rw [← this]
    omega
  show G d 204 0 [some (.ref a)] [] σ Q ↔ _
  simp only [s_204_0, s_204_1, s_204_2, s_204_3, s_204_4, s_204_5, s_204_6, s_204_7, s_204_8, s_204_9, s_204_10, s_204_11, s_204_12, s_204_13, s_204_14, s_204_15, hr, h1, h2, h3, e, yix3_0, yix3_1, yix3_2, ycl_0, ycl_1, ycl_2, hgf_s, hsel_0, hsel_1, hsel_2, hsel_3, hsel_4, hsel_5, hsel_6, hsel_7, hsel_8, hset_0, hset_1, hset_2, hset_3, hset_4, hset_5, hset_6, hset_7, hset_8, hpf_s, hcl_s, hai_s, hpi_0, hpi_1, hln_0, hln_1, List.length_cons, List.length_nil, xwr_1, xwr_2, xnew_1, xnew_n, xnew_s, xnew_z, Nat.reduceLT, ite_true, and_self, hp_8_0, hp_8_1, hn_8_1, hp_8_2, hn_8_2, hp_9_0, hp_9_1, hp_9_2, hp_9_3, hp_9_4, hp_9_5, hn_9_5, hp_9_6, hn_9_6, hp_9_7, hn_9_7, hp_10_0, hp_10_1, hp_10_2, hn_10_2, hp_10_3, hn_10_3, hp_11_0, hp_12_0, hn_12_0, hp_12_1, hp_12_2, hp_12_3, hp_12_4, hp_12_5, hn_12_5, hp_12_6, hn_12_6, hp_12_7, hp_12_8, hp_13_0, hn_13_0, hp_13_1, hp_13_2, hp_13_3, hp_14_0, hn_14_0, hp_14_1, hp_14_2, hp_14_3, xdef_8, xdef_9, xdef_10, xdef_11, xdef_12, xdef_13, xdef_14, Gk_v, Gk_n, xcat_nil, xcat_i, xcat_r, xcat_l, xcat_d, Nat.zero_le, Nat.reduceAdd, Nat.reduceLeDiff, true_and, and_true, ykl_i, ykl_r, ykl_n, ykl_l]
theorem m_203 {a b : Nat} {x y : Int32} (h : pC σ a x) (g : pC σ b y) (hx : pcol x) (hy : pcol y) : Ra d 203 [.ref a, .ref b] σ (.inl (some (.int (yb (decide (x = y)))))) σ := by
  intro Q
  obtain ⟨ha, c, h0, h1, h2, h3⟩ := h
  obtain ⟨hb, c', g0, g1, g2, g3⟩ := g
  have hr : xRd σ a = some (.inl (0, (3, .inl c))) := by rw [yrd_lt ha, h0]
  have hq : xRd σ b = some (.inl (0, (3, .inl c'))) := by rw [yrd_lt hb, g0]
  have b1 := (yb8_eq x 16).2
  have b2 := (yb8_eq x 8).2
  have b3 := (yb8_eq x 0).2
  have b4 := (yb8_eq y 16).2
  have b5 := (yb8_eq y 8).2
  have b6 := (yb8_eq y 0).2
  have i1 : yI (yb8 x 16) = yI (yb8 y 16) ↔ yb8 x 16 = yb8 y 16 := yI_inj (by omega) (by omega)
  have i2 : yI (yb8 x 8) = yI (yb8 y 8) ↔ yb8 x 8 = yb8 y 8 := yI_inj (by omega) (by omega)
  have i3 : yI (yb8 x 0) = yI (yb8 y 0) ↔ yb8 x 0 = yb8 y 0 := yI_inj (by omega) (by omega)
  have key : x = y ↔ (yb8 x 16 = yb8 y 16 ∧ (yb8 x 8 = yb8 y 8 ∧ yb8 x 0 = yb8 y 0)) := by
    constructor
    · rintro rfl; exact ⟨rfl, rfl, rfl⟩
    · rintro ⟨p1, p2, p3⟩
      rw [pcol_eq hx, pcol_eq hy, p1, p2, p3]
  show G d 203 0 [some (.ref a), some (.ref b)] [] σ Q ↔ _
  simp only [s_203_0, s_203_1, s_203_2, s_203_3, s_203_4, s_203_5, s_203_6, s_203_7, s_203_8, s_203_9, s_203_10, s_203_11, s_203_12, s_203_13, s_203_14, s_203_15, s_203_16, s_203_17, s_203_18, s_203_19, s_203_20, s_203_21, s_203_22, s_203_23, s_203_24, hr, hq, h1, h2, h3, g1, g2, g3, yix3_0, yix3_1, yix3_2, ycl_0, ycl_1, ycl_2, i1, i2, i3, ne_eq, hgf_s, hsel_0, hsel_1, hsel_2, hsel_3, hsel_4, hsel_5, hsel_6, hsel_7, hsel_8, hset_0, hset_1, hset_2, hset_3, hset_4, hset_5, hset_6, hset_7, hset_8, hpf_s, hcl_s, hai_s, hpi_0, hpi_1, hln_0, hln_1, List.length_cons, List.length_nil, xwr_1, xwr_2, xnew_1, xnew_n, xnew_s, xnew_z, Nat.reduceLT, ite_true, and_self, hp_8_0, hp_8_1, hn_8_1, hp_8_2, hn_8_2, hp_9_0, hp_9_1, hp_9_2, hp_9_3, hp_9_4, hp_9_5, hn_9_5, hp_9_6, hn_9_6, hp_9_7, hn_9_7, hp_10_0, hp_10_1, hp_10_2, hn_10_2, hp_10_3, hn_10_3, hp_11_0, hp_12_0, hn_12_0, hp_12_1, hp_12_2, hp_12_3, hp_12_4, hp_12_5, hn_12_5, hp_12_6, hn_12_6, hp_12_7, hp_12_8, hp_13_0, hn_13_0, hp_13_1, hp_13_2, hp_13_3, hp_14_0, hn_14_0, hp_14_1, hp_14_2, hp_14_3, xdef_8, xdef_9, xdef_10, xdef_11, xdef_12, xdef_13, xdef_14, Gk_v, Gk_n, xcat_nil, xcat_i, xcat_r, xcat_l, xcat_d, Nat.zero_le, Nat.reduceAdd, Nat.reduceLeDiff, true_and, and_true, ykl_i, ykl_r, ykl_n, ykl_l]
  by_cases p1 : yb8 x 16 = yb8 y 16
  · by_cases p2 : yb8 x 8 = yb8 y 8
    · by_cases p3 : yb8 x 0 = yb8 y 0
      · have hk : x = y := key.mpr ⟨p1, p2, p3⟩
        simp only [p1, p2, p3, hk, not_true_eq_false, if_false, decide_true, yb, if_true, ybo_1, true_and]
      · have hk : ¬ x = y := fun q => p3 (key.mp q).2.2
        simp only [p1, p2, p3, hk, not_true_eq_false, not_false_eq_true, if_true, if_false, decide_false, yb, Bool.false_eq_true, ybo_0, true_and]
    · have hk : ¬ x = y := fun q => p2 (key.mp q).2.1
      simp only [p1, p2, hk, not_true_eq_false, not_false_eq_true, if_true, if_false, decide_false, yb, Bool.false_eq_true, ybo_0, true_and]
  · have hk : ¬ x = y := fun q => p1 (key.mp q).1
    simp only [p1, hk, not_false_eq_true, if_true, if_false, decide_false, yb, Bool.false_eq_true, ybo_0, true_and]
end

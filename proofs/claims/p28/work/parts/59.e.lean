/-! ===== the plan: the model's half ===== -/
theorem yI_bv (a : Nat) : (yI a).toBitVec = BitVec.ofNat 32 a := rfl
theorem yI_bit {i j : Nat} (hi : i < 2147483648) (hj : j < 31) : (yI i >>> (yI j &&& 31)) &&& 1 = yb (i.testBit j) := by
  have e1 : (yI j &&& 31) = yI j := by
    apply Int32.toBitVec_inj.mp
    rw [Int32.toBitVec_and, yI_bv]
    apply BitVec.eq_of_toNat_eq
    rw [BitVec.toNat_and, BitVec.toNat_ofNat]
    show j % 2 ^ 32 &&& (2 ^ 5 - 1) = j % 2 ^ 32
    rw [Nat.and_two_pow_sub_one_eq_mod]
    omega
  have hs : (yI j).toBitVec.smod 32 = BitVec.ofNat 32 j := by
    rw [yI_bv]
    apply BitVec.eq_of_toInt_eq
    rw [BitVec.toInt_smod]
    have h1 : (BitVec.ofNat 32 j).toInt = j := by
      rw [BitVec.toInt_ofNat', Int.bmod_eq_of_le] <;> omega
    have h2 : (32 : BitVec 32).toInt = 32 := by decide
    rw [h1, h2]
    rw [Int.fmod_eq_emod_of_nonneg _ (by decide)]
    omega
  have hm : (BitVec.ofNat 32 i).msb = false := by
    rw [BitVec.msb_eq_false_iff_two_mul_lt, BitVec.toNat_ofNat]
    omega
  have hv : ((yI i >>> yI j) &&& 1).toBitVec.toNat = (i >>> j) % 2 := by
    rw [Int32.toBitVec_and, Int32.toBitVec_shiftRight, hs, yI_bv, BitVec.toNat_and, BitVec.sshiftRight', BitVec.sshiftRight_eq_of_msb_false hm, BitVec.toNat_ushiftRight, BitVec.toNat_ofNat, BitVec.toNat_ofNat]
    rw [Nat.mod_eq_of_lt (a := i) (by omega), Nat.mod_eq_of_lt (a := j) (by omega)]
    exact Nat.and_one_is_mod _
  rw [e1]
  apply Int32.toBitVec_inj.mp
  apply BitVec.eq_of_toNat_eq
  rw [hv]
  have ht : i.testBit j = decide ((i >>> j) % 2 = 1) := by
    rw [Nat.testBit, Nat.one_and_eq_mod_two]
    by_cases h : i >>> j % 2 = 1
    · rw [h]
      rfl
    · have h0 : i >>> j % 2 = 0 := by omega
      rw [h0]
      rfl
  rw [ht]
  by_cases h : i >>> j % 2 = 1
  · rw [h]
    rfl
  · have h0 : i >>> j % 2 = 0 := by omega
    rw [h0]
    rfl
/-- the pixels of a list that a number's bits choose, as a set -/
def yps (bad : Nat → Nat) (i : Nat) : Nat → Nat
  | 0 => 0
  | j + 1 => if i.testBit j = true then yps bad i j ||| 2 ^ bad j else yps bad i j
theorem yps_bit {bad : Nat → Nat} {i p : Nat} : ∀ j, (yps bad i j).testBit p = true ↔ ∃ q, q < j ∧ (i.testBit q = true ∧ bad q = p) := by
  intro j
  induction j with
  | zero =>
    rw [yps, Nat.zero_testBit]
    constructor
    · intro h; cases h
    · rintro ⟨q, h, -⟩; omega
  | succ j ih =>
    rw [yps]
    split
    · rename_i hb
      rw [Nat.testBit_or, Nat.testBit_two_pow, Bool.or_eq_true, ih, decide_eq_true_iff]
      constructor
      · rintro (⟨q, h1, h2⟩ | h)
        · exact ⟨q, by omega, h2⟩
        · exact ⟨j, by omega, hb, h⟩
      · rintro ⟨q, h1, h2, h3⟩
        by_cases e : q = j
        · rw [e] at h3
          exact Or.inr h3
        · exact Or.inl ⟨q, by omega, h2, h3⟩
    · rename_i hb
      rw [ih]
      constructor
      · rintro ⟨q, h1, h2⟩
        exact ⟨q, by omega, h2⟩
      · rintro ⟨q, h1, h2, h3⟩
        by_cases e : q = j
        · rw [e] at h2
          exact absurd h2 hb
        · exact ⟨q, by omega, h2, h3⟩
theorem yps_lt {bad : Nat → Nat} {i n : Nat} : ∀ j, (∀ q, q < j → bad q < n) → yps bad i j < 2 ^ n := by
  intro j
  induction j with
  | zero => intro _; exact Nat.pow_pos (by decide)
  | succ j ih =>
    intro h
    have h1 := ih (fun q hq => h q (by omega))
    rw [yps]
    split
    · exact Nat.or_lt_two_pow h1 (Nat.pow_lt_pow_right (by decide) (h j (by omega)))
    · exact h1
theorem ycn_mono {b : Nat → Bool} : ∀ m n, ycn b n ≤ ycn b (n + m) := by
  intro m
  induction m with
  | zero => intro n; exact Nat.le_refl _
  | succ m ih =>
    intro n
    rw [← Nat.add_assoc, ycn]
    have := ih n
    omega
theorem ycn_lt {b : Nat → Bool} {p q : Nat} (h : p < q) (hb : b p = true) : ycn b p < ycn b q := by
  have h1 := ycn_mono (b := b) (q - (p + 1)) (p + 1)
  rw [show p + 1 + (q - (p + 1)) = q by omega, ycn, if_pos hb] at h1
  omega
/-- the list of what is bad -/
abbrev ylb (t : yT) (D : yD) (p : Nat) : Prop := ∀ q, q < ycn (yisbad D) p → ∃ b, b < p ∧ (t.A 182 q = yI b ∧ (yisbad D b = true ∧ ycn (yisbad D) b = q))
theorem yps_pd {D : yD} (hn : D.n ≤ 40) {bad : Nat → Nat} (hb : ∀ q, q < ycn (yisbad D) D.n → bad q < D.n ∧ (yisbad D (bad q) = true ∧ ycn (yisbad D) (bad q) = q)) (i : Nat) : yps bad i (ycn (yisbad D) D.n) = ypd 40 (ybadset D) i := by
  apply Nat.eq_of_testBit_eq
  intro p
  have hw : ∀ q, q < D.n → (ybadset D).testBit q = yisbad D q := by
    intro q hq
    rw [ybadset_bit (by omega), decide_eq_true hq, Bool.true_and]
  have hcn : ∀ q, q ≤ D.n → ycn (ybadset D).testBit q = ycn (yisbad D) q := fun q hq => ycn_congr _ (fun r hr => hw r (by omega))
  rw [Bool.eq_iff_iff, yps_bit, ypd_bit, Bool.and_eq_true, Bool.and_eq_true, decide_eq_true_iff]
  constructor
  · rintro ⟨q, h1, h2, h3⟩
    obtain ⟨g1, g2, g3⟩ := hb q h1
    rw [h3] at g1 g2 g3
    refine ⟨by omega, ?_, ?_⟩
    · rw [hw p g1]; exact g2
    · rw [hcn p (by omega), g3]; exact h2
  · rintro ⟨h1, h2, h3⟩
    have hp : p < D.n := by
      rw [ybadset_bit (by omega), Bool.and_eq_true, decide_eq_true_iff] at h2
      exact h2.1
    rw [hw p hp] at h2
    rw [hcn p (by omega)] at h3
    have hq : ycn (yisbad D) p < ycn (yisbad D) D.n := ycn_lt hp h2
    obtain ⟨g1, g2, g3⟩ := hb _ hq
    refine ⟨_, hq, h3, ?_⟩
    by_cases e1 : bad (ycn (yisbad D) p) < p
    · have := ycn_lt e1 g2
      omega
    · by_cases e2 : p < bad (ycn (yisbad D) p)
      · have := ycn_lt e2 h2
        omega
      · omega
/-- one step of the model's search -/
def ysM (Y : yD) (w : Nat) (mx : Int32) (i : Nat) (s : Int64 × (Int32 × Int32)) : Int64 × (Int32 × Int32) :=
  if yI (ypc 64 (ypd 40 w i)) ≤ mx then (if s.2.1 = -1 ∨ (ycw Y (Y.bw ||| ypd 40 w i) < s.2.1 ∨ (ycw Y (Y.bw ||| ypd 40 w i) = s.2.1 ∧ (yI (ypc 64 (ypd 40 w i)) < s.2.2 ∨ (yI (ypc 64 (ypd 40 w i)) = s.2.2 ∧ ¬ s.1 ≤ Int64.ofNat (ypd 40 w i))))) then (Int64.ofNat (ypd 40 w i), (ycw Y (Y.bw ||| ypd 40 w i), yI (ypc 64 (ypd 40 w i)))) else s) else s
theorem ycw_n (Y : yD) (X : Nat) : ∃ c, c ≤ Y.n ∧ ycw Y X = yI c := by
  have gen : ∀ m p a, ∃ c, c ≤ a + m ∧ yfold (fun p a => if ycwp Y X p = true then a + 1 else a) m p (yI a) = yI c := by
    intro m
    induction m with
    | zero => intro p a; exact ⟨a, by omega, rfl⟩
    | succ m ih =>
      intro p a
      rw [yfold]
      split
      · have e : yI a + 1 = yI (a + 1) := yI_add
        rw [e]
        obtain ⟨c, h1, h2⟩ := ih (p + 1) (a + 1)
        exact ⟨c, by omega, h2⟩
      · obtain ⟨c, h1, h2⟩ := ih (p + 1) a
        exact ⟨c, by omega, h2⟩
  obtain ⟨c, h1, h2⟩ := gen Y.n 0 0
  exact ⟨c, by omega, h2⟩
theorem yne_m1 {c : Nat} (h : c < 2147483648) : ¬ yI c = -1 := by
  intro h1
  have := yI_nneg h
  rw [h1] at this
  exact this (by decide)
theorem yL_le {a b : Nat} (hb : b < 2 ^ 63) (h : a ≤ b) : Int64.ofNat a ≤ Int64.ofNat b := by
  rw [Int64.le_iff_toInt_le, Int64.toInt_ofNat_of_lt (by omega), Int64.toInt_ofNat_of_lt (by omega)]
  omega
/-- both searches find the same -/
theorem yplan_M {Y : yD} (hn : Y.n ≤ 40) {w b : Nat} (hw : w < 2 ^ 40) (hb : b ≤ 10) : (yfold (ysM Y w (yI b)) (2 ^ ypc 64 w) 0 (0, (-1, 0))).1 = yplan Y w (yI b) := by
  have hp := ypc_40 hw
  have gen : ∀ m i j (s : Int64 × (Int32 × Int32)), j < i → i + m = 2 ^ ypc 64 w → s.1 = Int64.ofNat (ypd 40 w j) → ¬ s.2.1 = -1 → yfold (ysM Y w (yI b)) m i s = yfold (ysC Y w (yI b)) m i s := by
    intro m
    induction m with
    | zero => intro i j s _ _ _ _; rfl
    | succ m ih =>
      intro i j s hj hi h1 h2
      have hlt : ypd 40 w j < ypd 40 w i := ypd_lt 40 w j i hj (by rw [hp]; omega)
      have hle : s.1 ≤ Int64.ofNat (ypd 40 w i) := by
        have := ypd_sub 40 w i hw
        rw [h1]
        exact yL_le (by omega) (by omega)
      have e : ysM Y w (yI b) i s = ysC Y w (yI b) i s := by
        unfold ysM ysC
        simp only [h2, hle, not_true_eq_false, and_false, or_false, false_or]
      rw [yfold, yfold, e]
      unfold ysC
      split
      · split
        · obtain ⟨c, hc1, hc2⟩ := ycw_n Y (Y.bw ||| ypd 40 w i)
          refine ih (i + 1) i _ (by omega) (by omega) rfl ?_
          show ¬ ycw Y (Y.bw ||| ypd 40 w i) = -1
          rw [hc2]
          exact yne_m1 (by omega)
        · exact ih (i + 1) j _ (by omega) (by omega) h1 h2
      · exact ih (i + 1) j _ (by omega) (by omega) h1 h2
  have hpos : 0 < 2 ^ ypc 64 w := Nat.pow_pos (by decide)
  obtain ⟨m, hm⟩ : ∃ m, 2 ^ ypc 64 w = m + 1 := ⟨2 ^ ypc 64 w - 1, by omega⟩
  unfold yplan
  rw [hm, yfold, yfold]
  obtain ⟨c, hc1, hc2⟩ := ycw_n Y (Y.bw ||| ypd 40 w 0)
  have z : ypc 64 (ypd 40 w 0) = 0 := by rw [ypd_0]; decide
  have e0 : yI 0 ≤ yI b := (yI_le (by omega) (by omega)).mpr (by omega)
  have e1 : yI c < 41 := (yI_lt (m := 41) (by omega) (by decide)).mpr (by omega)
  have s1 : ysM Y w (yI b) 0 (0, (-1, 0)) = (Int64.ofNat (ypd 40 w 0), (yI c, yI 0)) := by
    unfold ysM
    rw [z, if_pos e0, if_pos (Or.inl rfl), hc2]
  have s2 : ysC Y w (yI b) 0 (0, (41, 11)) = (Int64.ofNat (ypd 40 w 0), (yI c, yI 0)) := by
    unfold ysC
    rw [z, if_pos e0, hc2, if_pos (Or.inl e1)]
  rw [s1, s2]
  rw [gen m 1 0 _ (by omega) (by omega) rfl (yne_m1 (by omega))]

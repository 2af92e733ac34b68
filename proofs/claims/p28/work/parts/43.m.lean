/-! ===== sets of pixels: put in, taken out, counted ===== -/
theorem yL_xor (a b : Nat) : Int64.ofNat a ^^^ Int64.ofNat b = Int64.ofNat (a ^^^ b) := by
  apply Int64.toBitVec_inj.mp
  rw [Int64.toBitVec_xor, yL_bv, yL_bv, yL_bv]
  apply BitVec.eq_of_toNat_eq
  rw [BitVec.toNat_xor, BitVec.toNat_ofNat, BitVec.toNat_ofNat, BitVec.toNat_ofNat, Nat.xor_mod_two_pow]
theorem yL_shl {p : Nat} (hp : p < 63) : (1 : Int64) <<< ((yI p).toInt64 &&& 63) = Int64.ofNat (2 ^ p) := by
  have e1 : ((yI p).toInt64 &&& 63) = Int64.ofNat p := by
    have h : (yI p).toInt64 = Int64.ofNat p := by
      rw [yJ_of, yI_toInt (by omega)]
      rfl
    rw [h, show (63 : Int64) = Int64.ofNat 63 from rfl, yL_and]
    congr 1
    show p &&& (2 ^ 6 - 1) = p
    rw [Nat.and_two_pow_sub_one_eq_mod, Nat.mod_eq_of_lt (by omega)]
  rw [e1]
  apply Int64.toBitVec_inj.mp
  have hs : (Int64.ofNat p).toBitVec.smod 64 = BitVec.ofNat 64 p := by
    rw [yL_bv]
    apply BitVec.eq_of_toInt_eq
    rw [BitVec.toInt_smod]
    have h1 : (BitVec.ofNat 64 p).toInt = p := by
      rw [BitVec.toInt_ofNat', Int.bmod_eq_of_le] <;> omega
    have h2 : (64 : BitVec 64).toInt = 64 := by decide
    rw [h1, h2]
    have : (p : Int).fmod 64 = p := by
      rw [Int.fmod_eq_emod_of_nonneg _ (by decide)]
      omega
    exact this
  rw [Int64.toBitVec_shiftLeft, hs, yL_bv, BitVec.shiftLeft_eq']
  apply BitVec.eq_of_toNat_eq
  rw [BitVec.toNat_shiftLeft, BitVec.toNat_ofNat, BitVec.toNat_ofNat]
  show (1 : Nat) <<< (p % 2 ^ 64) % 2 ^ 64 = _
  rw [Nat.mod_eq_of_lt (a := p) (by omega), Nat.shiftLeft_eq, Nat.one_mul]
/-- a set with a pixel put in, or taken out -/
def ybs (w p : Nat) (b : Bool) : Nat := if b = true then w ||| 2 ^ p else w &&& (2 ^ p ^^^ 18446744073709551615)
theorem y64_bit (q : Nat) : (18446744073709551615 : Nat).testBit q = decide (q < 64) := by
  rw [show (18446744073709551615 : Nat) = 2 ^ 64 - 1 from rfl, Nat.testBit_two_pow_sub_one]
theorem ybs_bit {w p : Nat} {b : Bool} {q : Nat} (hq : q < 64) : (ybs w p b).testBit q = if q = p then b else w.testBit q := by
  unfold ybs
  cases b
  · rw [if_neg (by decide), Nat.testBit_and, Nat.testBit_xor, Nat.testBit_two_pow, y64_bit]
    by_cases e : q = p
    · subst e
      simp [hq]
    · have e' : ¬ p = q := fun h => e h.symm
      simp [hq, e, e']
  · rw [if_pos rfl, Nat.testBit_or, Nat.testBit_two_pow]
    by_cases e : q = p
    · subst e
      simp
    · have e' : ¬ p = q := fun h => e h.symm
      simp [e, e']
theorem ybs_lt {w p n : Nat} {b : Bool} (hw : w < 2 ^ n) (hp : p < n) : ybs w p b < 2 ^ n := by
  unfold ybs
  split
  · exact Nat.or_lt_two_pow hw (Nat.pow_lt_pow_right (by decide) hp)
  · exact Nat.lt_of_le_of_lt Nat.and_le_left hw
theorem yDok_sbw {D : yD} {w : Nat} (h : yDok D) (hw : w < 2 ^ D.n) : yDok (D.sbw w) :=
  ⟨h.n1, h.n40, h.f1, h.f6, h.fp0, h.fpm, h.fpn, h.ogm, h.fll, h.unu, h.lvv, hw, h.2.2.2.2.2.2.2.2.2.2.2.2⟩
theorem ybw_no {D : yD} (h : yDok D) {p : Nat} (hp : D.n ≤ p) : D.bp p = false := by
  have h1 := h.bwn
  exact Nat.testBit_lt_two_pow (Nat.lt_of_lt_of_le h1 (Nat.pow_le_pow_right (by decide) hp))
section
variable {d o : Nat} {t : yT} {D : yD}
theorem m_35 (W : yW t o D) {p : Nat} (hp : p < D.n) {b : Bool} : Ra d 35 [.ref o, .int (yI p), .int (yb b)] (yemb t) (.inl none) (yemb (t.sL o 15 (Int64.ofNat (ybs D.bw p b)))) ∧ yW (t.sL o 15 (Int64.ofNat (ybs D.bw p b))) o (D.sbw (ybs D.bw p b)) := by
  have hn40 := W.ok.n40
  refine ⟨fun Q => ?_, yDok_sbw W.ok (ybs_lt W.ok.bwn hp), yV_sbw W.v⟩
  show G d 35 0 [some (.ref o), some (.int (yI p)), some (.int (yb b))] [] (yemb t) Q ↔ _
  have e1 : (-1 : Int64) = Int64.ofNat 18446744073709551615 := rfl
  have e2 : (1 : Int64) <<< ((yI p).toInt64 &&& 63) = Int64.ofNat (2 ^ p) := yL_shl (by omega)
  cases b
  · simp only [s_35_0, s_35_1, s_35_2, s_35_3, s_35_4, s_35_5, s_35_6, s_35_7, s_35_8, s_35_9, s_35_10, s_35_11, s_35_12, s_35_13, s_35_14, s_35_15, s_35_16, s_35_17, s_35_18, s_35_19, W.oo, W.bw, ifb, if_neg, Bool.false_eq_true, if_false, e2, e1, yL_xor, yL_and, ybs, Gk_v, Gk_n, xcat_nil, xcat_i, xcat_r, xcat_l, xcat_d, Nat.zero_le, Nat.reduceAdd, Nat.reduceLeDiff, true_and, and_true, ykl_i, ykl_r, ykl_n, ykl_l]
  · simp only [s_35_0, s_35_1, s_35_2, s_35_3, s_35_4, s_35_5, s_35_6, s_35_7, s_35_8, s_35_9, s_35_10, s_35_11, s_35_12, s_35_13, s_35_14, s_35_15, s_35_16, s_35_17, s_35_18, s_35_19, W.oo, W.bw, ifb, if_true, e2, yL_or, ybs, Gk_v, Gk_n, xcat_nil, xcat_i, xcat_r, xcat_l, xcat_d, Nat.zero_le, Nat.reduceAdd, Nat.reduceLeDiff, true_and, and_true, ykl_i, ykl_r, ykl_n, ykl_l]
end
/-- how many of the first pixels have something -/
def ycn (b : Nat → Bool) : Nat → Nat
  | 0 => 0
  | p + 1 => ycn b p + (if b p = true then 1 else 0)
theorem ycn_low (b : Nat → Bool) : ∀ n, ycn b (n + 1) = (if b 0 = true then 1 else 0) + ycn (fun i => b (i + 1)) n := by
  intro n
  induction n with
  | zero => simp [ycn]
  | succ n ih =>
    rw [ycn, ih]
    simp only [ycn]
    omega
theorem ypc_cn : ∀ n w, ypc n w = ycn w.testBit n := by
  intro n
  induction n with
  | zero => intro w; rfl
  | succ n ih =>
    intro w
    rw [ycn_low, ypc, ih]
    have e : (fun i => w.testBit (i + 1)) = (w / 2).testBit := by
      funext i
      rw [Nat.testBit_succ]
    rw [e, Nat.testBit_zero]
    congr 1
    by_cases h : w % 2 = 1
    · simp [h]
    · have : w % 2 = 0 := by omega
      simp [this]
theorem ycn_more {b : Nat → Bool} {n : Nat} (h : ∀ p, n ≤ p → b p = false) : ∀ m, ycn b (n + m) = ycn b n := by
  intro m
  induction m with
  | zero => rfl
  | succ m ih =>
    rw [← Nat.add_assoc, ycn, ih, h (n + m) (by omega)]
    simp
theorem ypc_n {w n : Nat} (hw : w < 2 ^ n) (hn : n ≤ 64) : ypc 64 w = ycn w.testBit n := by
  rw [ypc_cn, show (64 : Nat) = n + (64 - n) by omega]
  exact ycn_more (fun p hp => Nat.testBit_lt_two_pow (Nat.lt_of_lt_of_le hw (Nat.pow_le_pow_right (by decide) hp))) _
theorem ycn_congr {b c : Nat → Bool} : ∀ n, (∀ p, p < n → b p = c p) → ycn b n = ycn c n := by
  intro n
  induction n with
  | zero => intro _; rfl
  | succ n ih =>
    intro h
    rw [ycn, ycn, ih (fun p hp => h p (by omega)), h n (by omega)]
theorem ycn_le {b : Nat → Bool} : ∀ n, ycn b n ≤ n := by
  intro n
  induction n with
  | zero => exact Nat.le_refl _
  | succ n ih =>
    rw [ycn]
    split <;> omega
theorem ybad_cn (k : Nat → Int32) : ∀ n, ybad k n = ycn (fun p => k p != 0) n := by
  intro n
  induction n with
  | zero => rfl
  | succ n ih =>
    rw [ybad, ycn, ih]
    congr 1
    by_cases h : k n = 0
    · simp [h]
    · simp [h]
theorem ybad_upd {k : Nat → Int32} {p : Nat} {v : Int32} : ∀ n, p < n → ybad (upd k p v) n + (if k p = 0 then 0 else 1) = ybad k n + (if v = 0 then 0 else 1) := by
  intro n
  induction n with
  | zero => intro h; omega
  | succ n ih =>
    intro h
    by_cases e : p = n
    · subst e
      have h0 : ∀ m, m ≤ p → ybad (upd k p v) m = ybad k m := by
        intro m
        induction m with
        | zero => intro _; rfl
        | succ m ihm =>
          intro hm
          rw [ybad, ybad, ihm (by omega), yupd_ne (by omega)]
      rw [ybad, ybad, h0 p (Nat.le_refl _), yupd_same]
      omega
    · have := ih (by omega)
      rw [ybad, ybad, yupd_ne (Ne.symm e)]
      omega
/-- the bad ones as a set -/
def yodd (k : Nat → Int32) : Nat → Nat
  | 0 => 0
  | p + 1 => if k p = 0 then yodd k p else yodd k p ||| 2 ^ p
theorem yodd_bit {k : Nat → Int32} {q : Nat} : ∀ n, (yodd k n).testBit q = (decide (q < n) && k q != 0) := by
  intro n
  induction n with
  | zero => simp [yodd]
  | succ n ih =>
    rw [yodd]
    split
    · rename_i h
      rw [ih]
      by_cases e : q = n
      · subst e
        simp [h]
      · have : (q < n) = (q < n + 1) := by
          apply propext
          omega
        simp [this]
    · rename_i h
      rw [Nat.testBit_or, ih, Nat.testBit_two_pow]
      by_cases e : q = n
      · subst e
        simp [h]
      · have : (q < n) = (q < n + 1) := by
          apply propext
          omega
        have e' : ¬ n = q := fun h => e h.symm
        simp [this, e']
theorem yodd_lt {k : Nat → Int32} : ∀ n, yodd k n < 2 ^ n := by
  intro n
  apply Nat.lt_pow_two_of_testBit
  intro i hi
  rw [yodd_bit]
  have : ¬ i < n := by omega
  simp [this]
section
variable {d o : Nat} {t : yT} {D : yD}
theorem l_37 (W : yW t o D) : ∀ m p, p + m = D.n → Ga d 37 4 [some (.ref o), some (.long (Int64.ofNat (yodd D.kd p))), none, some (.int (yI p))] [] (yemb t) (.inl (some (.long (Int64.ofNat (yodd D.kd D.n))))) (yemb t) := by
  have hn40 := W.ok.n40
  intro m
  induction m with
  | zero =>
    intro p hp Q
    have e : p = D.n := by omega
    have h1 : yI D.n ≤ yI D.n := Int32.le_refl _
    rw [s_37_4]
    simp only [s_37_0, s_37_1, s_37_2, s_37_3, s_37_5, s_37_6, s_37_7, s_37_8, s_37_9, s_37_10, s_37_11, s_37_12, s_37_13, s_37_14, s_37_15, s_37_16, s_37_17, s_37_18, s_37_19, s_37_20, s_37_21, s_37_22, W.oo, W.n, h1, if_true, e]
  | succ m ih =>
    intro p hp Q
    have h1 : ¬ yI D.n ≤ yI p := fun h => absurd ((yI_le (by omega) (by omega)).mp h) (by omega)
    have h2 : yix (yI p) 40 := yix_I (by omega) (by omega)
    have h3 : (yI p).toNatClampNeg = p := yI_clamp (by omega)
    have h4 : yI p + 1 = yI (p + 1) := yI_add
    have e2 : (1 : Int64) <<< ((yI p).toInt64 &&& 63) = Int64.ofNat (2 ^ p) := yL_shl (by omega)
    have hih := ih (p + 1) (by omega)
    rw [yodd] at hih
    rw [s_37_4]
    by_cases hk : D.kd p = 0
    · rw [if_pos hk] at hih
      simp only [s_37_0, s_37_1, s_37_2, s_37_3, s_37_5, s_37_6, s_37_7, s_37_8, s_37_9, s_37_10, s_37_11, s_37_12, s_37_13, s_37_14, s_37_15, s_37_16, s_37_17, s_37_18, s_37_19, s_37_20, s_37_21, s_37_22, W.oo, W.n, h1, if_false, if_true, yAs_3 W.oo, yns_3 W.oo, h2, h3, W.kd p (show p < 40 by omega), hk, h4, hih, Gk_v, Gk_n, xcat_nil, xcat_i, xcat_r, xcat_l, xcat_d, Nat.zero_le, Nat.reduceAdd, Nat.reduceLeDiff, true_and, and_true, ykl_i, ykl_r, ykl_n, ykl_l]
    · rw [if_neg hk] at hih
      simp only [s_37_0, s_37_1, s_37_2, s_37_3, s_37_5, s_37_6, s_37_7, s_37_8, s_37_9, s_37_10, s_37_11, s_37_12, s_37_13, s_37_14, s_37_15, s_37_16, s_37_17, s_37_18, s_37_19, s_37_20, s_37_21, s_37_22, W.oo, W.n, h1, if_false, yAs_3 W.oo, yns_3 W.oo, h2, h3, W.kd p (show p < 40 by omega), hk, e2, yL_or, h4, hih, Gk_v, Gk_n, xcat_nil, xcat_i, xcat_r, xcat_l, xcat_d, Nat.zero_le, Nat.reduceAdd, Nat.reduceLeDiff, true_and, and_true, ykl_i, ykl_r, ykl_n, ykl_l]
theorem m_37 (W : yW t o D) : Ra d 37 [.ref o] (yemb t) (.inl (some (.long (Int64.ofNat (yodd D.kd D.n))))) (yemb t) := by
  intro Q
  show G d 37 0 [some (.ref o), none, none, none] [] (yemb t) Q ↔ _
  simp only [s_37_0, s_37_1, s_37_2, s_37_3, Gk_v, Gk_n, xcat_nil, xcat_i, xcat_r, xcat_l, xcat_d, Nat.zero_le, Nat.reduceAdd, Nat.reduceLeDiff, true_and, and_true, ykl_i, ykl_r, ykl_n, ykl_l]
  exact l_37 W D.n 0 (Nat.zero_add _) Q
theorem ybad_pc (h : yDok D) : ypc 64 (yodd D.kd D.n) = ybad D.kd D.n := by
  have hn40 := h.n40
  rw [ypc_n (yodd_lt _) (by omega), ybad_cn]
  exact ycn_congr _ (fun p hp => by rw [yodd_bit]; simp [hp])
def yisbad (D : yD) (p : Nat) : Bool := D.kd p != 0 && !D.bp p
/-- the class's counts of sets -/
theorem ybw_pc (h : yDok D) : ypc 64 D.bw = ycn D.bp D.n := by
  have hn40 := h.n40
  exact ypc_n h.bwn (by omega)
def ybadset (D : yD) : Nat := yodd D.kd D.n &&& (D.bw ^^^ 18446744073709551615)
theorem ybadset_bit {q : Nat} (hq : q < 64) : (ybadset D).testBit q = (decide (q < D.n) && yisbad D q) := by
  unfold ybadset yisbad
  rw [Nat.testBit_and, yodd_bit, Nat.testBit_xor, y64_bit]
  simp only [hq, decide_true, Bool.bne_true]
  rw [Bool.and_assoc]
  rfl
theorem ybadset_lt (h : yDok D) : ybadset D < 2 ^ D.n := Nat.lt_of_le_of_lt Nat.and_le_left (yodd_lt _)
theorem ybadset_pc (h : yDok D) : ypc 64 (ybadset D) = ycn (yisbad D) D.n := by
  have hn40 := h.n40
  rw [ypc_n (ybadset_lt h) (by omega)]
  exact ycn_congr _ (fun p hp => by rw [ybadset_bit (by omega)]; simp [hp])
end

/-! ===== the model's setups: what holds, words, numbers, signs ===== -/
def ysb2 (b c : Bool) : Int32 := yI ((if b = true then 1 else 0) + (if c = true then 2 else 0))
abbrev ysn (U : yU) : Int32 := ysb2 U.2.2.1 U.2.2.2
/-- the model reads well up to m, and the draft and what is told are as U says -/
abbrev yMs (t : yT) (n : Nat) (B : Nat → Nat) (m : Nat) (U : yU) : Prop :=
  yYt t n B ∧ (m ≤ n ∧ (t.A 160 4 = yI m ∧ ((t.A 160 5 = 0 ∧ t.A 160 6 = -1) ∧ (t.A 160 18 = yI 0 ∧ (yM (t.A 163) U.1 ∧ ((t.L 160 20 = Int64.ofNat U.2.1 ∧ t.L 160 21 = Int64.ofNat (yodd U.1.kd U.1.n)) ∧ t.A 160 19 = ysn U))))))
/-- the model stands in error -/
abbrev yEr (u : yT) (c : Int32) (a : Nat) : Prop := ¬ u.A 160 5 = 0 ∧ (u.A 160 5 = c ∧ u.A 160 6 = yI a)
abbrev yKn (t u : yT) : Prop := (∀ j, (j < 4 ∨ j = 7 ∨ j = 8 ∨ j = 16 ∨ 22 ≤ j) → u.A 160 j = t.A 160 j) ∧ yFr (fun a => a = 160 ∨ a = 163) t u
def yRm (run : yT → Prop) (t : yT) (n : Nat) (B : Nat → Nat) (r : yQs) : Prop := match r with
  | .inr (q', U') => ∃ u m', run u ∧ (yMs u n B m' U' ∧ (ysk n B m' = q' ∧ yKn t u))
  | .inl (c, a) => ∃ u, run u ∧ (yEr u c a ∧ yKn t u)
section
variable {t u v : yT} {n : Nat} {B : Nat → Nat} {m m' : Nat} {U : yU}
theorem yKn_tr (h1 : yKn t u) (h2 : yKn u v) : yKn t v := ⟨fun j hj => by rw [h2.1 j hj, h1.1 j hj], h1.2.trans h2.2 (fun a h => h.elim id id)⟩
theorem yKn_rfl : yKn t t := ⟨fun _ _ => rfl, yFr.rfl'⟩
theorem yKn_s1 {j : Nat} {x : Int32} (hj : ¬ (j < 4 ∨ j = 7 ∨ j = 8 ∨ j = 16 ∨ 22 ≤ j)) : yKn t (t.s1 160 j x) := ⟨fun i hi => by rw [ys1_upd, yupd_ne (fun (e : i = j) => hj (e ▸ hi))], yFr_s1 (Or.inl rfl)⟩
theorem yKn_3 {j : Nat} {x : Int32} : yKn t (t.s1 163 j x) := ⟨fun i _ => by rw [ys1_ne (by decide)], yFr_s1 (Or.inr rfl)⟩
theorem yKn_L {j : Nat} {x : Int64} : yKn t (t.sL 160 j x) := ⟨fun i _ => by rw [ysL_A], yFr_sL (Or.inl rfl)⟩
theorem yKn_f3 (F : yFr (fun a => a = 163) t u) : yKn t u := ⟨fun i _ => by rw [F.A (by decide)], F.mono (fun a h => Or.inr h)⟩
theorem yKn_j (h : yKj t u) : yKn t u := ⟨fun j hj => h.1 j (by omega) (by omega) (by omega) (by omega) (by omega), h.2.2.1⟩
theorem yRm_to {run1 run2 : yT → Prop} {t0 : yT} {r : yQs} (hK : yKn t0 t) (h : ∀ u, run1 u → run2 u) (H : yRm run1 t n B r) : yRm run2 t0 n B r := by
  rcases r with ⟨c, a⟩ | ⟨q', U'⟩
  · obtain ⟨u, h1, h2, h3⟩ := H
    exact ⟨u, h _ h1, h2, yKn_tr hK h3⟩
  · obtain ⟨u, m', h1, h2, h3, h4⟩ := H
    exact ⟨u, m', h _ h1, h2, h3, yKn_tr hK h4⟩
/-- another place, nothing else -/
theorem yMs_e (M : yMs t n B m U) (hm : m' ≤ n) (h4 : u.A 160 4 = yI m') (hj : ∀ j, j ≠ 4 → j ≠ 17 → u.A 160 j = t.A 160 j) (F : yFe t u) : yMs u n B m' U ∧ yKn t u := by
  obtain ⟨Y, -, -, ⟨h5, h6⟩, h18, hM, ⟨h20, h21⟩, h19⟩ := M
  refine ⟨⟨yYt_fr Y (hj 3 (by decide) (by decide)) F, hm, h4, ⟨?_, ?_⟩, ?_, ?_, ⟨?_, ?_⟩, ?_⟩, fun j hj' => hj j (by omega) (by omega), F.1.mono (fun a h => Or.inl h)⟩
  · rw [hj 5 (by decide) (by decide)]; exact h5
  · rw [hj 6 (by decide) (by decide)]; exact h6
  · rw [hj 18 (by decide) (by decide)]; exact h18
  · rw [F.A (by decide)]; exact hM
  · rw [F.2]; exact h20
  · rw [F.2]; exact h21
  · rw [hj 19 (by decide) (by decide)]; exact h19
/-- the draft changes, nothing else -/
theorem yMs_D (M : yMs t n B m U) {D : yD} (h : yM (u.A 163) D) (F : yFr (fun a => a = 163) t u) (hk : yodd D.kd D.n = yodd U.1.kd U.1.n) : yMs u n B m (D, U.2) := by
  obtain ⟨Y, hm, h4, ⟨h5, h6⟩, h18, -, ⟨h20, h21⟩, h19⟩ := M
  have e : u.A 160 = t.A 160 := F.A (by decide)
  refine ⟨⟨Y.1, by rw [e]; exact Y.2.1, fun i hi => by rw [F.A (by decide)]; exact Y.2.2 i hi⟩, hm, ?_, ⟨?_, ?_⟩, ?_, h, ⟨?_, ?_⟩, ?_⟩
  · rw [e]; exact h4
  · rw [e]; exact h5
  · rw [e]; exact h6
  · rw [e]; exact h18
  · rw [F.L (by decide)]; exact h20
  · rw [F.L (by decide), h21]
    exact congrArg Int64.ofNat hk.symm
  · rw [e]; exact h19
end
section
variable {d : Nat} {t : yT} {n : Nat} {B : Nat → Nat} {m : Nat} {U : yU}
theorem ysn_0 {c : Bool} : (ysb2 false c >>> ((0 : Int32) &&& 31)) &&& 1 = 0 ∧ ysb2 false c ||| ((1 : Int32) <<< ((0 : Int32) &&& 31)) = ysb2 true c := by
  cases c <;> exact ⟨by decide, by decide⟩
theorem ysn_0t {c : Bool} : (ysb2 true c >>> ((0 : Int32) &&& 31)) &&& 1 = 1 := by
  cases c <;> decide
theorem ysn_1 {b : Bool} : (ysb2 b false >>> ((1 : Int32) &&& 31)) &&& 1 = 0 ∧ ysb2 b false ||| ((1 : Int32) <<< ((1 : Int32) &&& 31)) = ysb2 b true := by
  cases b <;> exact ⟨by decide, by decide⟩
theorem ysn_1t {b : Bool} : (ysb2 b true >>> ((1 : Int32) &&& 31)) &&& 1 = 1 := by
  cases b <;> decide
/-- a bit of a set, as the model asks -/
theorem yL_sar {w p : Nat} (hw : w < 2 ^ 63) (hp : p < 63) : (Int64.ofNat w >>> ((yI p).toInt64 &&& 63)) &&& 1 = if w.testBit p = true then 1 else 0 := by
  have e1 : ((yI p).toInt64 &&& 63) = Int64.ofNat p := by
    have h : (yI p).toInt64 = Int64.ofNat p := by
      rw [yJ_of, yI_toInt (by omega)]
      rfl
    rw [h, show (63 : Int64) = Int64.ofNat 63 from rfl, yL_and]
    congr 1
    show p &&& (2 ^ 6 - 1) = p
    rw [Nat.and_two_pow_sub_one_eq_mod, Nat.mod_eq_of_lt (by omega)]
  have hs : (Int64.ofNat p).toBitVec.smod 64 = BitVec.ofNat 64 p := by
    rw [yL_bv]
    apply BitVec.eq_of_toInt_eq
    rw [BitVec.toInt_smod]
    have h1 : (BitVec.ofNat 64 p).toInt = p := by
      rw [BitVec.toInt_ofNat', Int.bmod_eq_of_le] <;> omega
    have h2 : (64 : BitVec 64).toInt = 64 := by decide
    rw [h1, h2]
    have : (p : Int).fmod 64 = p := by
      rw [Int.fmod_eq_emod_of_nonneg _ (by decide)]
      omega
    exact this
  have hmsb : (BitVec.ofNat 64 w).msb = false := by
    rw [BitVec.msb_eq_decide, BitVec.toNat_ofNat, Nat.mod_eq_of_lt (by omega)]
    exact decide_eq_false (by show ¬ 2 ^ 63 ≤ w; omega)
  have e2 : Int64.ofNat w >>> Int64.ofNat p = Int64.ofNat (w >>> p) := by
    apply Int64.toBitVec_inj.mp
    rw [Int64.toBitVec_shiftRight, hs, yL_bv, yL_bv, BitVec.sshiftRight_eq', BitVec.sshiftRight_eq_of_msb_false hmsb]
    apply BitVec.eq_of_toNat_eq
    rw [BitVec.toNat_ushiftRight, BitVec.toNat_ofNat, BitVec.toNat_ofNat, BitVec.toNat_ofNat, Nat.mod_eq_of_lt (a := w) (by omega), Nat.mod_eq_of_lt (a := p) (by omega), Nat.mod_eq_of_lt]
    exact Nat.lt_of_le_of_lt (Nat.shiftRight_le _ _) (by omega)
  rw [e1, e2, show (1 : Int64) = Int64.ofNat 1 from rfl, yL_and, Nat.and_one_is_mod, Nat.testBit, Nat.one_and_eq_mod_two]
  rcases Nat.mod_two_eq_zero_or_one (w >>> p) with h | h
  · rw [h]; rfl
  · rw [h]; rfl
theorem lg_cmp11 : lg_cmp 1 1 = 0 := by decide
theorem lg_cmp01 : ¬ lg_cmp 0 1 = 0 := by decide
end

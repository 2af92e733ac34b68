/-! ===== texts are written: words of four letters ===== -/
def pw4 (a b c e : Nat) : Nat := a * 16777216 + b * 65536 + c * 256 + e
theorem pw4_bk {a b c e : Nat} (ha : a < 128) (hb : b < 256) (hc : c < 256) (he : e < 256) {q : Nat} (hq : q < 4) : ybk (yI (pw4 a b c e)) q = if q = 0 then a else if q = 1 then b else if q = 2 then c else e := by
  have hw : pw4 a b c e < 2147483648 := by unfold pw4; omega
  have hs : ∀ q, q < 4 → (24 : Int32) - 8 * yI q = yI (24 - 8 * q) := by decide
  unfold ybk
  rw [hs q hq, yb8_I hw (by omega)]
  unfold pw4
  rcases (by omega : q = 0 ∨ (q = 1 ∨ (q = 2 ∨ q = 3))) with rfl | rfl | rfl | rfl
  · rw [if_pos rfl]
    show (a * 16777216 + b * 65536 + c * 256 + e) / 16777216 % 256 = a
    omega
  · rw [if_neg (by decide), if_pos rfl]
    show (a * 16777216 + b * 65536 + c * 256 + e) / 65536 % 256 = b
    omega
  · rw [if_neg (by decide), if_neg (by decide), if_pos rfl]
    show (a * 16777216 + b * 65536 + c * 256 + e) / 256 % 256 = c
    omega
  · rw [if_neg (by decide), if_neg (by decide), if_neg (by decide)]
    show (a * 16777216 + b * 65536 + c * 256 + e) / 1 % 256 = e
    omega
theorem pshl : ∀ k, k < 4 → ∀ x, x < 128 → yI x <<< (yI (24 - 8 * k) &&& 31) = yI (x * 2 ^ (24 - 8 * k)) := by decide +kernel
theorem pint_or {a b : Nat} : yI a ||| yI b = yI (a ||| b) := by
  apply Int32.toBitVec_inj.mp
  rw [Int32.toBitVec_or]
  show BitVec.ofNat 32 a ||| BitVec.ofNat 32 b = BitVec.ofNat 32 (a ||| b)
  rw [BitVec.ofNat_or]
theorem por_add {a b : Nat} (i : Nat) (h : b < 2 ^ i) : yI (2 ^ i * a) ||| yI b = yI (2 ^ i * a + b) := by
  rw [pint_or, Nat.two_pow_add_eq_or_of_lt h]
/-- the letter at i, or 0 -/
abbrev pbt (l : List Nat) (i : Nat) : Nat := l.getD i 0
/-- the word j of those letters that are not appended yet -/
def pwd (l : List Nat) (j : Nat) : Nat := pw4 (pbt l (20 * (l.length / 20) + 4 * j)) (pbt l (20 * (l.length / 20) + 4 * j + 1)) (pbt l (20 * (l.length / 20) + 4 * j + 2)) (pbt l (20 * (l.length / 20) + 4 * j + 3))
theorem pbt_hi {l : List Nat} {i : Nat} (h : l.length ≤ i) : pbt l i = 0 := by
  unfold pbt
  rw [List.getD_eq_getElem?_getD, List.getElem?_eq_none h]
  rfl
theorem pbt_app {l : List Nat} {x i : Nat} : pbt (l ++ [x]) i = if i = l.length then x else pbt l i := by
  unfold pbt
  rw [List.getD_eq_getElem?_getD, List.getD_eq_getElem?_getD]
  by_cases h : i < l.length
  · rw [List.getElem?_append_left h, if_neg (by omega)]
  · rw [List.getElem?_append_right (by omega)]
    by_cases h1 : i = l.length
    · subst h1
      rw [if_pos rfl, Nat.sub_self]
      rfl
    · rw [if_neg h1, List.getElem?_eq_none (by simp; omega), List.getElem?_eq_none (by omega)]
theorem pint_0 {x : Int32} : x ||| 0 = x := by
  apply Int32.toBitVec_inj.mp
  rw [Int32.toBitVec_or]
  show x.toBitVec ||| 0#32 = _
  rw [BitVec.or_zero]
/-- a word with one letter more, as the program makes it -/
theorem pword {a b c e x k : Nat} (ha : a < 128) (hb : b < 128) (hc : c < 128) (he : e < 128) (hx : x < 128) (hk : k < 4) (h0 : k = 0 → a = 0 ∧ (b = 0 ∧ (c = 0 ∧ e = 0))) (h1 : k = 1 → b = 0 ∧ (c = 0 ∧ e = 0)) (h2 : k = 2 → c = 0 ∧ e = 0) (h3 : k = 3 → e = 0) : yI (pw4 a b c e) ||| (yI x <<< (yI (24 - 8 * k) &&& 31)) = yI (pw4 (if k = 0 then x else a) (if k = 1 then x else b) (if k = 2 then x else c) (if k = 3 then x else e)) := by
  rw [pshl k hk x hx]
  rcases (by omega : k = 0 ∨ (k = 1 ∨ (k = 2 ∨ k = 3))) with rfl | rfl | rfl | rfl
  · obtain ⟨rfl, rfl, rfl, rfl⟩ := h0 rfl
    have e1 : pw4 0 0 0 0 = 2 ^ 31 * 0 := rfl
    rw [e1, por_add 31 (by show x * 16777216 < 2147483648; omega)]
    refine congrArg yI ?_
    unfold pw4
    rw [if_pos rfl, if_neg (by decide), if_neg (by decide), if_neg (by decide)]
    show _ + x * 16777216 = _
    omega
  · obtain ⟨rfl, rfl, rfl⟩ := h1 rfl
    have e1 : pw4 a 0 0 0 = 2 ^ 24 * a := by unfold pw4; omega
    rw [e1, por_add 24 (by show x * 65536 < 16777216; omega)]
    refine congrArg yI ?_
    unfold pw4
    rw [if_neg (by decide), if_pos rfl, if_neg (by decide), if_neg (by decide)]
    show _ + x * 65536 = _
    omega
  · obtain ⟨rfl, rfl⟩ := h2 rfl
    have e1 : pw4 a b 0 0 = 2 ^ 16 * (a * 256 + b) := by unfold pw4; omega
    rw [e1, por_add 16 (by show x * 256 < 65536; omega)]
    refine congrArg yI ?_
    unfold pw4
    rw [if_neg (by decide), if_neg (by decide), if_pos rfl, if_neg (by decide)]
    show _ + x * 256 = _
    omega
  · have := h3 rfl
    subst this
    have e1 : pw4 a b c 0 = 2 ^ 8 * (a * 65536 + b * 256 + c) := by unfold pw4; omega
    rw [e1, por_add 8 (by show x * 1 < 256; omega)]
    refine congrArg yI ?_
    unfold pw4
    rw [if_neg (by decide), if_neg (by decide), if_neg (by decide), if_pos rfl]
    show _ + x * 1 = _
    omega
section
variable {d : Nat} {t : yT} {D : yD} {k : Nat} {E : Nat → yD} {s0 s1 : Option yD} {n : Nat} {B : Nat → Nat} {eo en : Int32} {b : Nat} {f : Nat → Int32}
theorem yix8_ : ∀ k, k < 8 → yix (yI k) 8 := fun k h => yix_I h (by decide)
/-- flush -/
theorem m_180 (C : yCI t D k E s0 s1 n B eo en) (hn : n + 20 ≤ 600) (hb : 160 ≤ b ∧ b < 1000000) (h : (yemb t).1 b = some (pints 8 f)) : ∃ u f', Ra (d + 2) 180 [.ref 0, .ref b] (yemb t) (.inl none) (xwr (yemb u) b (pints 8 f')) ∧ ((yCI u D k E s0 s1 (n + 20) (yapp (f 1) (f 2) (f 3) (f 4) (f 5) n B) eo en ∧ yFr (fun a => a = 1 ∨ a = 2) t u) ∧ (f' 0 = f 0 ∧ ∀ j, j < 5 → f' (1 + j) = 0)) := by
  obtain ⟨u, g1, C1, F1⟩ := q_94 (d := d) C hn (a1 := f 1) (a2 := f 2) (a3 := f 3) (a4 := f 4) (a5 := f 5)
  refine ⟨u, upd (upd (upd (upd (upd f 1 0) 2 0) 3 0) 4 0) 5 0, fun Q => ?_, ⟨C1, F1⟩, rfl, fun j hj => ?_⟩
  · obtain ⟨fs, oc⟩ := pO (t := t)
    have r1 : xRd (yemb t) b = some (.inl (0, (8, .inl f))) := by rw [yrd_lt hb.2, h]
    have h2 : (yemb u).1 b = some (.inl (0, (8, .inl f))) := by
      rw [yemb_hi hb.1, F1.K, ← yemb_hi hb.1 (t := t), h]
    have i1 : yix 1 8 := yix8_ 1 (by decide)
    have i2 : yix 2 8 := yix8_ 2 (by decide)
    have i3 : yix 3 8 := yix8_ 3 (by decide)
    have i4 : yix 4 8 := yix8_ 4 (by decide)
    have i5 : yix 5 8 := yix8_ 5 (by decide)
    have c5 : (5 : Int32).toNatClampNeg = 5 := rfl
    have p1 : (1 : Int32) + 1 = 2 := by decide
    have p2 : (2 : Int32) + 1 = 3 := by decide
    have p3 : (3 : Int32) + 1 = 4 := by decide
    have p4 : (4 : Int32) + 1 = 5 := by decide
    have p5 : (5 : Int32) + 1 = 6 := by decide
    have l1 : ¬ (6 : Int32) ≤ 1 := by decide
    have l2 : ¬ (6 : Int32) ≤ 2 := by decide
    have l3 : ¬ (6 : Int32) ≤ 3 := by decide
    have l4 : ¬ (6 : Int32) ≤ 4 := by decide
    have l5 : ¬ (6 : Int32) ≤ 5 := by decide
    show G (d + 2) 180 0 [some (.ref 0), some (.ref b), none] [] (yemb t) Q ↔ _
    simp only [s_180_0, s_180_1, s_180_2, s_180_3, s_180_4, s_180_5, s_180_6, s_180_7, s_180_8, s_180_9, s_180_10, s_180_11, s_180_12, s_180_13, s_180_14, s_180_15, s_180_16, s_180_18, s_180_19, s_180_17i, r1, oc, g1 _, i1, i2, i3, i4, i5, ycl_1, ycl_2, ycl_3, ycl_4, c5, hgf_s, hsel_0, hsel_1, hsel_2, hsel_3, hsel_4, hsel_5, hsel_6, hsel_7, hsel_8, hset_0, hset_1, hset_2, hset_3, hset_4, hset_5, hset_6, hset_7, hset_8, hpf_s, hcl_s, hai_s, hpi_0, hpi_1, hln_0, hln_1, List.length_cons, List.length_nil, xwr_1, xwr_2, xnew_1, xnew_n, xnew_s, xnew_z, Nat.reduceLT, ite_true, and_self, hp_8_0, hp_8_1, hn_8_1, hp_8_2, hn_8_2, hp_9_0, hp_9_1, hp_9_2, hp_9_3, hp_9_4, hp_9_5, hn_9_5, hp_9_6, hn_9_6, hp_9_7, hn_9_7, hp_10_0, hp_10_1, hp_10_2, hn_10_2, hp_10_3, hn_10_3, hp_11_0, hp_12_0, hn_12_0, hp_12_1, hp_12_2, hp_12_3, hp_12_4, hp_12_5, hn_12_5, hp_12_6, hn_12_6, hp_12_7, hp_12_8, hp_13_0, hn_13_0, hp_13_1, hp_13_2, hp_13_3, hp_14_0, hn_14_0, hp_14_1, hp_14_2, hp_14_3, xdef_8, xdef_9, xdef_10, xdef_11, xdef_12, xdef_13, xdef_14, Gk_v, Gk_n, xcat_nil, xcat_i, xcat_r, xcat_l, xcat_d, Nat.zero_le, Nat.reduceAdd, Nat.reduceLeDiff, true_and, and_true, ykl_i, ykl_r, ykl_n, ykl_l]
    rw [s_180_20]
    simp only [s_180_21, s_180_22, s_180_23, s_180_24, s_180_25, s_180_26, s_180_27, s_180_28, h2, hb.2, i1, ycl_1, p1, l1, pwr_at, pwr_wr, if_false, hgf_s, hsel_0, hsel_1, hsel_2, hsel_3, hsel_4, hsel_5, hsel_6, hsel_7, hsel_8, hset_0, hset_1, hset_2, hset_3, hset_4, hset_5, hset_6, hset_7, hset_8, hpf_s, hcl_s, hai_s, hpi_0, hpi_1, hln_0, hln_1, List.length_cons, List.length_nil, xwr_1, xwr_2, xnew_1, xnew_n, xnew_s, xnew_z, Nat.reduceLT, ite_true, and_self, hp_8_0, hp_8_1, hn_8_1, hp_8_2, hn_8_2, hp_9_0, hp_9_1, hp_9_2, hp_9_3, hp_9_4, hp_9_5, hn_9_5, hp_9_6, hn_9_6, hp_9_7, hn_9_7, hp_10_0, hp_10_1, hp_10_2, hn_10_2, hp_10_3, hn_10_3, hp_11_0, hp_12_0, hn_12_0, hp_12_1, hp_12_2, hp_12_3, hp_12_4, hp_12_5, hn_12_5, hp_12_6, hn_12_6, hp_12_7, hp_12_8, hp_13_0, hn_13_0, hp_13_1, hp_13_2, hp_13_3, hp_14_0, hn_14_0, hp_14_1, hp_14_2, hp_14_3, xdef_8, xdef_9, xdef_10, xdef_11, xdef_12, xdef_13, xdef_14, Gk_v, Gk_n, xcat_nil, xcat_i, xcat_r, xcat_l, xcat_d, Nat.zero_le, Nat.reduceAdd, Nat.reduceLeDiff, true_and, and_true, ykl_i, ykl_r, ykl_n, ykl_l]
    rw [s_180_20]
    simp only [s_180_21, s_180_22, s_180_23, s_180_24, s_180_25, s_180_26, s_180_27, s_180_28, hb.2, i2, ycl_2, p2, l2, pwr_at, pwr_wr, if_false, hgf_s, hsel_0, hsel_1, hsel_2, hsel_3, hsel_4, hsel_5, hsel_6, hsel_7, hsel_8, hset_0, hset_1, hset_2, hset_3, hset_4, hset_5, hset_6, hset_7, hset_8, hpf_s, hcl_s, hai_s, hpi_0, hpi_1, hln_0, hln_1, List.length_cons, List.length_nil, xwr_1, xwr_2, xnew_1, xnew_n, xnew_s, xnew_z, Nat.reduceLT, ite_true, and_self, hp_8_0, hp_8_1, hn_8_1, hp_8_2, hn_8_2, hp_9_0, hp_9_1, hp_9_2, hp_9_3, hp_9_4, hp_9_5, hn_9_5, hp_9_6, hn_9_6, hp_9_7, hn_9_7, hp_10_0, hp_10_1, hp_10_2, hn_10_2, hp_10_3, hn_10_3, hp_11_0, hp_12_0, hn_12_0, hp_12_1, hp_12_2, hp_12_3, hp_12_4, hp_12_5, hn_12_5, hp_12_6, hn_12_6, hp_12_7, hp_12_8, hp_13_0, hn_13_0, hp_13_1, hp_13_2, hp_13_3, hp_14_0, hn_14_0, hp_14_1, hp_14_2, hp_14_3, xdef_8, xdef_9, xdef_10, xdef_11, xdef_12, xdef_13, xdef_14, Gk_v, Gk_n, xcat_nil, xcat_i, xcat_r, xcat_l, xcat_d, Nat.zero_le, Nat.reduceAdd, Nat.reduceLeDiff, true_and, and_true, ykl_i, ykl_r, ykl_n, ykl_l]
    rw [s_180_20]
    simp only [s_180_21, s_180_22, s_180_23, s_180_24, s_180_25, s_180_26, s_180_27, s_180_28, hb.2, i3, ycl_3, p3, l3, pwr_at, pwr_wr, if_false, hgf_s, hsel_0, hsel_1, hsel_2, hsel_3, hsel_4, hsel_5, hsel_6, hsel_7, hsel_8, hset_0, hset_1, hset_2, hset_3, hset_4, hset_5, hset_6, hset_7, hset_8, hpf_s, hcl_s, hai_s, hpi_0, hpi_1, hln_0, hln_1, List.length_cons, List.length_nil, xwr_1, xwr_2, xnew_1, xnew_n, xnew_s, xnew_z, Nat.reduceLT, ite_true, and_self, hp_8_0, hp_8_1, hn_8_1, hp_8_2, hn_8_2, hp_9_0, hp_9_1, hp_9_2, hp_9_3, hp_9_4, hp_9_5, hn_9_5, hp_9_6, hn_9_6, hp_9_7, hn_9_7, hp_10_0, hp_10_1, hp_10_2, hn_10_2, hp_10_3, hn_10_3, hp_11_0, hp_12_0, hn_12_0, hp_12_1, hp_12_2, hp_12_3, hp_12_4, hp_12_5, hn_12_5, hp_12_6, hn_12_6, hp_12_7, hp_12_8, hp_13_0, hn_13_0, hp_13_1, hp_13_2, hp_13_3, hp_14_0, hn_14_0, hp_14_1, hp_14_2, hp_14_3, xdef_8, xdef_9, xdef_10, xdef_11, xdef_12, xdef_13, xdef_14, Gk_v, Gk_n, xcat_nil, xcat_i, xcat_r, xcat_l, xcat_d, Nat.zero_le, Nat.reduceAdd, Nat.reduceLeDiff, true_and, and_true, ykl_i, ykl_r, ykl_n, ykl_l]
    rw [s_180_20]
    simp only [s_180_21, s_180_22, s_180_23, s_180_24, s_180_25, s_180_26, s_180_27, s_180_28, hb.2, i4, ycl_4, p4, l4, pwr_at, pwr_wr, if_false, hgf_s, hsel_0, hsel_1, hsel_2, hsel_3, hsel_4, hsel_5, hsel_6, hsel_7, hsel_8, hset_0, hset_1, hset_2, hset_3, hset_4, hset_5, hset_6, hset_7, hset_8, hpf_s, hcl_s, hai_s, hpi_0, hpi_1, hln_0, hln_1, List.length_cons, List.length_nil, xwr_1, xwr_2, xnew_1, xnew_n, xnew_s, xnew_z, Nat.reduceLT, ite_true, and_self, hp_8_0, hp_8_1, hn_8_1, hp_8_2, hn_8_2, hp_9_0, hp_9_1, hp_9_2, hp_9_3, hp_9_4, hp_9_5, hn_9_5, hp_9_6, hn_9_6, hp_9_7, hn_9_7, hp_10_0, hp_10_1, hp_10_2, hn_10_2, hp_10_3, hn_10_3, hp_11_0, hp_12_0, hn_12_0, hp_12_1, hp_12_2, hp_12_3, hp_12_4, hp_12_5, hn_12_5, hp_12_6, hn_12_6, hp_12_7, hp_12_8, hp_13_0, hn_13_0, hp_13_1, hp_13_2, hp_13_3, hp_14_0, hn_14_0, hp_14_1, hp_14_2, hp_14_3, xdef_8, xdef_9, xdef_10, xdef_11, xdef_12, xdef_13, xdef_14, Gk_v, Gk_n, xcat_nil, xcat_i, xcat_r, xcat_l, xcat_d, Nat.zero_le, Nat.reduceAdd, Nat.reduceLeDiff, true_and, and_true, ykl_i, ykl_r, ykl_n, ykl_l]
    rw [s_180_20]
    simp only [s_180_21, s_180_22, s_180_23, s_180_24, s_180_25, s_180_26, s_180_27, s_180_28, hb.2, i5, c5, p5, l5, pwr_at, pwr_wr, if_false, hgf_s, hsel_0, hsel_1, hsel_2, hsel_3, hsel_4, hsel_5, hsel_6, hsel_7, hsel_8, hset_0, hset_1, hset_2, hset_3, hset_4, hset_5, hset_6, hset_7, hset_8, hpf_s, hcl_s, hai_s, hpi_0, hpi_1, hln_0, hln_1, List.length_cons, List.length_nil, xwr_1, xwr_2, xnew_1, xnew_n, xnew_s, xnew_z, Nat.reduceLT, ite_true, and_self, hp_8_0, hp_8_1, hn_8_1, hp_8_2, hn_8_2, hp_9_0, hp_9_1, hp_9_2, hp_9_3, hp_9_4, hp_9_5, hn_9_5, hp_9_6, hn_9_6, hp_9_7, hn_9_7, hp_10_0, hp_10_1, hp_10_2, hn_10_2, hp_10_3, hn_10_3, hp_11_0, hp_12_0, hn_12_0, hp_12_1, hp_12_2, hp_12_3, hp_12_4, hp_12_5, hn_12_5, hp_12_6, hn_12_6, hp_12_7, hp_12_8, hp_13_0, hn_13_0, hp_13_1, hp_13_2, hp_13_3, hp_14_0, hn_14_0, hp_14_1, hp_14_2, hp_14_3, xdef_8, xdef_9, xdef_10, xdef_11, xdef_12, xdef_13, xdef_14, Gk_v, Gk_n, xcat_nil, xcat_i, xcat_r, xcat_l, xcat_d, Nat.zero_le, Nat.reduceAdd, Nat.reduceLeDiff, true_and, and_true, ykl_i, ykl_r, ykl_n, ykl_l]
    rw [s_180_20]
    simp only [s_180_21, s_180_22, s_180_29, Int32.le_refl, if_true]
  · rcases (by omega : j = 0 ∨ (j = 1 ∨ (j = 2 ∨ (j = 3 ∨ j = 4)))) with rfl | rfl | rfl | rfl | rfl <;> rfl
end

/-! ===== append ===== -/
theorem ysb_of (x k : Int32) : vp_nar .byte (x >>> (k &&& 31)).toInt8.toInt32 = ysb (yb8 x k) := by
  have e := (yb8_eq x k).1
  generalize x >>> (k &&& 31) = y at *
  show y.toInt8.toInt32.toInt8.toInt32 = (yI (yb8 x k)).toInt8.toInt32
  rw [← e]
  have h2 : (y &&& 255).toInt8 = y.toInt8 := by
    apply Int8.toBitVec_inj.mp
    rw [Int32.toBitVec_toInt8, Int32.toBitVec_toInt8, BitVec.signExtend_eq_setWidth_of_le _ (by decide), BitVec.signExtend_eq_setWidth_of_le _ (by decide), Int32.toBitVec_and]
    apply BitVec.eq_of_toNat_eq
    rw [BitVec.toNat_setWidth, BitVec.toNat_setWidth, BitVec.toNat_and]
    show (y.toBitVec.toNat &&& (2 ^ 8 - 1)) % 2 ^ 8 = _
    rw [Nat.and_two_pow_sub_one_eq_mod, Nat.mod_mod]
  rw [h2, Int8.toInt8_toInt32]
/-- the q-th byte of a number -/
def ybk (x : Int32) (q : Nat) : Nat := yb8 x (24 - 8 * yI q)
theorem ysh_step : ∀ j, j < 4 → ((24 : Int32) - 8 * yI j + (-8) = 24 - 8 * yI (j + 1) ∧ ¬ (24 : Int32) - 8 * yI j < 0) := by decide
def yarg (a1 a2 a3 a4 a5 : Int32) (i : Nat) : Int32 := if i < 4 then a1 else if i < 8 then a2 else if i < 12 then a3 else if i < 16 then a4 else a5
section
variable {d : Nat}
theorem m_74 {t : yT} : Ra d 74 [.ref 1] (yemb t) (.inl (some (.int (t.A 1 1)))) (yemb t) := by
  intro Q
  show G d 74 0 [some (.ref 1)] [] (yemb t) Q ↔ _
  simp only [s_74_0, s_74_1, s_74_2, yO_1, Gk_v, Gk_n, xcat_nil, xcat_i, xcat_r, xcat_l, xcat_d, Nat.zero_le, Nat.reduceAdd, Nat.reduceLeDiff, true_and, and_true, ykl_i, ykl_r, ykl_n, ykl_l]
theorem l_77 {x : Int32} {n : Nat} (hn : n + 4 ≤ 600) : ∀ m j (t : yT), j + m = 4 → t.A 1 1 = yI (n + j) → ∃ u, Ga d 77 2 [some (.ref 1), some (.int x), some (.int (24 - 8 * yI j))] [] (yemb t) (.inl none) (yemb u) ∧ (u.A 1 1 = yI (n + 4) ∧ ((∀ i, i < n + j → u.A 2 i = t.A 2 i) ∧ ((∀ q, j ≤ q → q < 4 → u.A 2 (n + q) = ysb (ybk x q)) ∧ yFr (fun a => a = 1 ∨ a = 2) t u))) := by
  intro m
  induction m with
  | zero =>
    intro j t hj h1
    have e : j = 4 := by omega
    subst e
    have h2 : (24 : Int32) - 8 * yI 4 < 0 := by decide
    refine ⟨t, fun Q => ?_, h1, fun _ _ => rfl, fun q h1 h2 => by omega, yFr.rfl'⟩
    rw [s_77_2]
    simp only [s_77_0, s_77_1, s_77_3, s_77_4, s_77_5, s_77_6, s_77_7, s_77_8, s_77_9, s_77_10, s_77_11, s_77_12, s_77_13, s_77_14, s_77_15, s_77_16, s_77_17, s_77_18, s_77_18i, s_77_19, s_77_20, s_77_21, s_77_22, s_77_23, s_77_24, s_77_25, h2, if_true, Gk_v, Gk_n, xcat_nil, xcat_i, xcat_r, xcat_l, xcat_d, Nat.zero_le, Nat.reduceAdd, Nat.reduceLeDiff, true_and, and_true, ykl_i, ykl_r, ykl_n, ykl_l]
  | succ m ih =>
    intro j t hj h1
    obtain ⟨e1, e2⟩ := ysh_step j (by omega)
    have h2 : ¬ (600 : Int32) ≤ yI (n + j) := fun h => absurd ((yI_le (n := 600) (by decide) (by omega)).mp h) (by omega)
    have h3 : yix (yI (n + j)) 600 := yix_I (by omega) (by omega)
    have h4 : (yI (n + j)).toNatClampNeg = n + j := yI_clamp (by omega)
    have h5 : yI (n + j) + 1 = yI (n + j + 1) := yI_add
    have g1 : ∀ v, (t.s1 2 (n + j) v).A 1 1 = yI (n + j) := fun v => by
      rw [ys1_ne (by decide)]
      exact h1
    have F1 : yFr (fun a => a = 1 ∨ a = 2) t ((t.s1 2 (n + j) (ysb (ybk x j))).s1 1 1 (yI (n + j + 1))) := (yFr_s1 (P := fun a => a = 2) rfl).trans (yFr_s1 (P := fun a => a = 1) rfl) (fun a h => by omega)
    have g2 : ((t.s1 2 (n + j) (ysb (ybk x j))).s1 1 1 (yI (n + j + 1))).A 2 = upd (t.A 2) (n + j) (ysb (ybk x j)) := by
      rw [ys1_ne (by decide), ys1_upd]
    obtain ⟨u, hu, u1, u2, u3, Fu⟩ := ih (j + 1) ((t.s1 2 (n + j) (ysb (ybk x j))).s1 1 1 (yI (n + j + 1))) (by omega) (by rw [ys1_same]; rfl)
    refine ⟨u, fun Q => ?_, u1, fun i hi => ?_, fun q q1 q2 => ?_, F1.trans Fu (fun a h => by omega)⟩
    · rw [s_77_2]
      simp only [s_77_0, s_77_1, s_77_3, s_77_4, s_77_5, s_77_6, s_77_7, s_77_8, s_77_9, s_77_10, s_77_11, s_77_12, s_77_13, s_77_14, s_77_15, s_77_16, s_77_17, s_77_18, s_77_18i, s_77_19, s_77_20, s_77_21, s_77_22, s_77_23, s_77_24, s_77_25, yO_1, e2, if_false, h1, h2, yA_2, yn_2, h3, h4, ysb_of, g1, h5, e1, Gk_v, Gk_n, xcat_nil, xcat_i, xcat_r, xcat_l, xcat_d, Nat.zero_le, Nat.reduceAdd, Nat.reduceLeDiff, true_and, and_true, ykl_i, ykl_r, ykl_n, ykl_l]
      exact hu Q
    · rw [u2 i (by omega), g2, yupd_ne (by omega)]
    · by_cases e : q = j
      · rw [e, u2 (n + j) (by omega), g2, yupd_same]
      · exact u3 q (by omega) q2
theorem m_77 {x : Int32} {n : Nat} (hn : n + 4 ≤ 600) {t : yT} (h1 : t.A 1 1 = yI n) : ∃ u, Ra d 77 [.ref 1, .int x] (yemb t) (.inl none) (yemb u) ∧ (u.A 1 1 = yI (n + 4) ∧ ((∀ i, i < n → u.A 2 i = t.A 2 i) ∧ ((∀ q, q < 4 → u.A 2 (n + q) = ysb (ybk x q)) ∧ yFr (fun a => a = 1 ∨ a = 2) t u))) := by
  obtain ⟨u, hu, u1, u2, u3, Fu⟩ := l_77 (d := d) (x := x) hn 4 0 t (Nat.zero_add _) h1
  refine ⟨u, fun Q => ?_, u1, u2, fun q hq => u3 q (Nat.zero_le _) hq, Fu⟩
  show G d 77 0 [some (.ref 1), some (.int x), none] [] (yemb t) Q ↔ _
  simp only [s_77_0, s_77_1, Gk_v, Gk_n, xcat_nil, xcat_i, xcat_r, xcat_l, xcat_d, Nat.zero_le, Nat.reduceAdd, Nat.reduceLeDiff, true_and, and_true, ykl_i, ykl_r, ykl_n, ykl_l]
  exact hu Q
/-- the text behind an append -/
def yapp (a1 a2 a3 a4 a5 : Int32) (n : Nat) (B : Nat → Nat) (i : Nat) : Nat := if i < n then B i else ybk (yarg a1 a2 a3 a4 a5 (i - n)) ((i - n) % 4)
theorem q_94 {t : yT} {D : yD} {k : Nat} {E : Nat → yD} {s0 s1 : Option yD} {n : Nat} {B : Nat → Nat} {eo en : Int32} (C : yCI t D k E s0 s1 n B eo en) (hn : n + 20 ≤ 600) {a1 a2 a3 a4 a5 : Int32} : ∃ u, Ra (d + 1) 94 [.ref 0, .int a1, .int a2, .int a3, .int a4, .int a5] (yemb t) (.inl (some (.int (yI (n + 20))))) (yemb u) ∧ (yCI u D k E s0 s1 (n + 20) (yapp a1 a2 a3 a4 a5 n B) eo en ∧ yFr (fun a => a = 1 ∨ a = 2) t u) := by
  obtain ⟨C1, ⟨w, C2⟩, ⟨⟨b1, b2⟩, b3, b4⟩, ⟨c1, c2, c3⟩, e1, e2⟩ := C
  obtain ⟨v1, r1, x1, y1, z1, F1⟩ := m_77 (d := d) (x := a1) (n := n) (by omega) c2
  obtain ⟨v2, r2, x2, y2, z2, F2⟩ := m_77 (d := d) (x := a2) (n := n + 4) (by omega) x1
  obtain ⟨v3, r3, x3, y3, z3, F3⟩ := m_77 (d := d) (x := a3) (n := n + 4 + 4) (by omega) x2
  obtain ⟨v4, r4, x4, y4, z4, F4⟩ := m_77 (d := d) (x := a4) (n := n + 4 + 4 + 4) (by omega) x3
  obtain ⟨v5, r5, x5, y5, z5, F5⟩ := m_77 (d := d) (x := a5) (n := n + 4 + 4 + 4 + 4) (by omega) x4
  have F : yFr (fun a => a = 1 ∨ a = 2) t v5 := (((F1.trans F2 (P'' := fun a => a = 1 ∨ a = 2) (fun a h => by omega)).trans F3 (P'' := fun a => a = 1 ∨ a = 2) (fun a h => by omega)).trans F4 (P'' := fun a => a = 1 ∨ a = 2) (fun a h => by omega)).trans F5 (fun a h => by omega)
  have h2 : yI n + 20 = yI (n + 20) := yI_add
  have h3 : yI (n + 20) ≤ 600 := (yI_le (m := 600) (by omega) (by decide)).mpr hn
  have n0 : v5.A 0 = t.A 0 := F.A (by decide)
  refine ⟨v5, fun Q => ?_, ⟨yW_fr C1 F (fun a g1 g2 g3 => by omega), ⟨w, yH1_fr C2 F (fun a h => by omega)⟩, ⟨⟨by rw [n0]; exact b1, by rw [n0]; exact b2⟩, fun X hX => yW_fr (b3 X hX) F (fun a g1 g2 g3 => by omega), fun X hX => yW_fr (b4 X hX) F (fun a g1 g2 g3 => by omega)⟩, ⟨hn, x5, fun i hi => ?_⟩, by rw [n0]; exact e1, by rw [n0]; exact e2⟩, F⟩
  · show G (d + 1) 94 0 [some (.ref 0), some (.int a1), some (.int a2), some (.int a3), some (.int a4), some (.int a5)] [] (yemb t) Q ↔ _
    simp only [s_94_0, s_94_1, s_94_2, s_94_3, s_94_4, s_94_5, s_94_6, s_94_7, s_94_8, s_94_9, s_94_10, s_94_11, s_94_12, s_94_13, s_94_14, s_94_15, s_94_16, s_94_17, s_94_18, s_94_19, s_94_20, s_94_21, s_94_22, s_94_23, s_94_24, s_94_25, s_94_26, s_94_27, s_94_28, s_94_29, s_94_30, s_94_31, s_94_32, yO_0, yO_1, fun t' => m_74 (d := d) (t := t'), c2, h2, h3, if_true, r1, r2, r3, r4, r5, x5, Gk_v, Gk_n, xcat_nil, xcat_i, xcat_r, xcat_l, xcat_d, Nat.zero_le, Nat.reduceAdd, Nat.reduceLeDiff, true_and, and_true, ykl_i, ykl_r, ykl_n, ykl_l]
  · unfold yapp
    by_cases g0 : i < n
    · rw [if_pos g0, y5 i (by omega), y4 i (by omega), y3 i (by omega), y2 i (by omega), y1 i g0, c3 i g0]
    · rw [if_neg g0]
      obtain ⟨q, hq⟩ : ∃ q, i = n + q := ⟨i - n, by omega⟩
      subst hq
      rw [Nat.add_sub_cancel_left]
      unfold yarg
      by_cases g1 : q < 4
      · rw [if_pos g1, y5 _ (by omega), y4 _ (by omega), y3 _ (by omega), y2 _ (by omega), z1 q g1, Nat.mod_eq_of_lt g1]
      · rw [if_neg g1]
        by_cases g2 : q < 8
        · rw [if_pos g2, y5 _ (by omega), y4 _ (by omega), y3 _ (by omega), show n + q = n + 4 + (q - 4) by omega, z2 _ (by omega), show q % 4 = q - 4 by omega]
        · rw [if_neg g2]
          by_cases g3 : q < 12
          · rw [if_pos g3, y5 _ (by omega), y4 _ (by omega), show n + q = n + 4 + 4 + (q - 8) by omega, z3 _ (by omega), show q % 4 = q - 8 by omega]
          · rw [if_neg g3]
            by_cases g4 : q < 16
            · rw [if_pos g4, y5 _ (by omega), show n + q = n + 4 + 4 + 4 + (q - 12) by omega, z4 _ (by omega), show q % 4 = q - 12 by omega]
            · rw [if_neg g4, show n + q = n + 4 + 4 + 4 + 4 + (q - 16) by omega, z5 _ (by omega), show q % 4 = q - 16 by omega]
end

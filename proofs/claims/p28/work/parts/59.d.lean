/-! ===== the plan: the class's search ===== -/
theorem xc_i {y : Int32} : xcat [.int y] ≤ 8 := Nat.le_of_ble_eq_true rfl
theorem yI_shl : ∀ m, m < 11 → (1 : Int32) <<< (yI m &&& 31) = yI (2 ^ m) := by decide
theorem yL_wrap (a : Nat) : Int64.ofNat (a + 18446744073709551616) = Int64.ofNat a := by
  apply Int64.toBitVec_inj.mp
  rw [yL_bv, yL_bv]
  apply BitVec.eq_of_toNat_eq
  rw [BitVec.toNat_ofNat, BitVec.toNat_ofNat]
  omega
theorem ypc_40 {w : Nat} (hw : w < 2 ^ 40) : ypc 40 w = ypc 64 w := by
  rw [ypc_cn, ypc_n hw (by decide)]
theorem ypd_L {w i : Nat} (hw : w < 2 ^ 40) (hi : i + 1 < 2 ^ ypc 64 w) : (Int64.ofNat (ypd 40 w i) - Int64.ofNat w) &&& Int64.ofNat w = Int64.ofNat (ypd 40 w (i + 1)) := by
  rw [← ypc_40 hw] at hi
  have h1 := ypd_next 40 w i hw hi
  generalize ypd 40 w i = s at *
  rw [← h1, ← yL_wrap s, yL_sub (by omega), yL_and]
  congr 1
  have hm := Nat.and_mod_two_pow (a := s + 18446744073709551616 - w) (b := w) (n := 40)
  have h2 : ((s + 18446744073709551616 - w) &&& w) % 2 ^ 40 = (s + 18446744073709551616 - w) &&& w := Nat.mod_eq_of_lt (Nat.lt_of_le_of_lt Nat.and_le_right hw)
  rw [h2, Nat.mod_eq_of_lt hw] at hm
  rw [hm]
  congr 1
  omega
/-- one step of the class's search -/
def ysC (Y : yD) (w : Nat) (mx : Int32) (i : Nat) (s : Int64 × (Int32 × Int32)) : Int64 × (Int32 × Int32) :=
  if yI (ypc 64 (ypd 40 w i)) ≤ mx then (if ycw Y (Y.bw ||| ypd 40 w i) < s.2.1 ∨ (ycw Y (Y.bw ||| ypd 40 w i) = s.2.1 ∧ yI (ypc 64 (ypd 40 w i)) < s.2.2) then (Int64.ofNat (ypd 40 w i), (ycw Y (Y.bw ||| ypd 40 w i), yI (ypc 64 (ypd 40 w i)))) else s) else s
def yplan (Y : yD) (w : Nat) (mx : Int32) : Int64 := (yfold (ysC Y w mx) (2 ^ ypc 64 w) 0 (0, (41, 11))).1
theorem ybadset_10 {D : yD} (h : yDok D) : ypc 64 (ybadset D) ≤ 10 := by
  rw [ybadset_pc h]
  refine Nat.le_trans ?_ h.bad
  rw [ybad_cn]
  have : ∀ n, ycn (yisbad D) n ≤ ycn (fun p => D.kd p != 0) n := by
    intro n
    induction n with
    | zero => exact Nat.le_refl _
    | succ n ih =>
      rw [ycn, ycn]
      have hb : yisbad D n = (D.kd n != 0 && !D.bp n) := rfl
      rw [hb]
      cases h1 : (D.kd n != 0) <;> cases h2 : D.bp n <;> simp <;> omega
  exact this _
section
variable {d o : Nat}
theorem l_61 {Y : yD} {w : Nat} {mx : Int32} (hw : w < 2 ^ Y.n) (hn : Y.n ≤ 40) (h10 : ypc 64 w ≤ 10) : ∀ m i (t : yT) (s : Int64 × (Int32 × Int32)) (s8 : Int64) l11 l12, yW t o Y → i + m = 2 ^ ypc 64 w → (0 < m → s8 = Int64.ofNat (ypd 40 w i)) → ∃ u, Ga (d + 4) 61 23 [some (.ref o), some (.int mx), some (.long (Int64.ofNat w)), none, some (.long s.1), none, some (.int s.2.1), some (.int s.2.2), some (.long s8), none, some (.int (yI m)), l11, l12] [] (yemb t) (.inl (some (.long (yfold (ysC Y w mx) m i s).1))) (yemb u) ∧ (yW u o Y ∧ yFr (fun a => a = o + 10) t u) := by
  have hw40 : w < 2 ^ 40 := Nat.lt_of_lt_of_le hw (Nat.pow_le_pow_right (by decide) hn)
  have h1024 : 2 ^ ypc 64 w ≤ 2 ^ 10 := Nat.pow_le_pow_right (by decide) h10
  intro m
  induction m with
  | zero =>
    intro i t s s8 l11 l12 W hi h8
    have h0 : yI 0 ≤ 0 := Int32.le_refl _
    refine ⟨t, fun Q => ?_, W, yFr.rfl'⟩
    rw [s_61_23]
    simp only [s_61_0, s_61_1, s_61_2, s_61_3, s_61_4, s_61_5, s_61_6, s_61_7, s_61_8, s_61_9, s_61_10, s_61_11, s_61_12, s_61_13, s_61_14, s_61_15, s_61_16, s_61_17, s_61_18, s_61_19, s_61_20, s_61_21, s_61_22, s_61_24, s_61_25, s_61_26, s_61_27, s_61_28, s_61_29, s_61_30, s_61_31, s_61_32, s_61_33, s_61_34, s_61_35, s_61_36, s_61_37, s_61_38, s_61_39, s_61_40, s_61_41, s_61_42, s_61_43, s_61_44, s_61_45, s_61_46, s_61_47, s_61_48, s_61_49, s_61_50, s_61_51, s_61_52, s_61_53, s_61_54, s_61_55, s_61_56, s_61_57, s_61_58, s_61_59, s_61_60, s_61_61, s_61_62, h0, if_true, yfold]
  | succ m ih =>
    intro i t s s8 l11 l12 W hi h8
    have h0 : ¬ yI (m + 1) ≤ 0 := fun h => absurd ((yI_le (m := 0) (by omega) (by decide)).mp h) (by omega)
    have e8 := h8 (Nat.succ_pos m)
    subst e8
    have hs := ypd_sub 40 w i hw40
    have hX : Y.bw ||| ypd 40 w i < 2 ^ Y.n := Nat.or_lt_two_pow W.ok.bwn (by omega)
    have hm1 : yI (m + 1) + (-1) = yI m := yI_m1 (Nat.succ_pos m)
    have g216 := fun (σ' : xS) (Q' : xR → xS → Prop) => m_216 (d := d + 3) (σ := σ') (Q := Q') (show ypd 40 w i < 18446744073709551616 by omega)
    have hstep : yfold (ysC Y w mx) (m + 1) i s = yfold (ysC Y w mx) m (i + 1) (ysC Y w mx i s) := rfl
    rw [hstep]
    have hnx : 0 < m → (Int64.ofNat (ypd 40 w i) - Int64.ofNat w) &&& Int64.ofNat w = Int64.ofNat (ypd 40 w (i + 1)) := fun hm => ypd_L hw40 (by omega)
    have hC : ysC Y w mx i s = if yI (ypc 64 (ypd 40 w i)) ≤ mx then (if ycw Y (Y.bw ||| ypd 40 w i) < s.2.1 ∨ (ycw Y (Y.bw ||| ypd 40 w i) = s.2.1 ∧ yI (ypc 64 (ypd 40 w i)) < s.2.2) then (Int64.ofNat (ypd 40 w i), (ycw Y (Y.bw ||| ypd 40 w i), yI (ypc 64 (ypd 40 w i)))) else s) else s := rfl
    have hirr : ¬ s.2.1 < s.2.1 := Int32.lt_irrefl
    by_cases c1 : yI (ypc 64 (ypd 40 w i)) ≤ mx
    · have c1' : ¬ mx < yI (ypc 64 (ypd 40 w i)) := Int32.not_lt.mpr c1
      rw [if_pos c1] at hC
      obtain ⟨u1, hu1, W1, F1⟩ := m_60 (d := d) W hX
      by_cases c2 : ycw Y (Y.bw ||| ypd 40 w i) < s.2.1
      · rw [if_pos (Or.inl c2)] at hC
        obtain ⟨u, hu, Wu, Fu⟩ := ih (i + 1) u1 (ysC Y w mx i s) _ (some (.int (yI (ypc 64 (ypd 40 w i))))) (some (.int (ycw Y (Y.bw ||| ypd 40 w i)))) W1 (by omega) hnx
        refine ⟨u, fun Q => ?_, Wu, F1.trans Fu (fun a h => by omega)⟩
        have hu' := hu Q
        rw [hC] at hu' ⊢
        rw [s_61_23]
        simp only [s_61_0, s_61_1, s_61_2, s_61_3, s_61_4, s_61_5, s_61_6, s_61_7, s_61_8, s_61_9, s_61_10, s_61_11, s_61_12, s_61_13, s_61_14, s_61_15, s_61_16, s_61_17, s_61_18, s_61_19, s_61_20, s_61_21, s_61_22, s_61_24, s_61_25, s_61_26, s_61_27, s_61_28, s_61_29, s_61_30, s_61_31, s_61_32, s_61_33, s_61_34, s_61_35, s_61_36, s_61_37, s_61_38, s_61_39, s_61_40, s_61_41, s_61_42, s_61_43, s_61_44, s_61_45, s_61_46, s_61_47, s_61_48, s_61_49, s_61_50, s_61_51, s_61_52, s_61_53, s_61_54, s_61_55, s_61_56, s_61_57, s_61_58, s_61_59, s_61_60, s_61_61, s_61_62, h0, if_true, if_false, g216, c1', W.oo, W.bw, yL_or, hu1, c2, hm1, Gk_v, Gk_n, xcat_nil, xcat_i, xcat_r, xcat_l, xcat_d, Nat.zero_le, Nat.reduceAdd, Nat.reduceLeDiff, true_and, and_true, ykl_i, ykl_r, ykl_n, ykl_l]
        exact hu'
      · by_cases c3 : ycw Y (Y.bw ||| ypd 40 w i) = s.2.1
        · by_cases c4 : yI (ypc 64 (ypd 40 w i)) < s.2.2
          · have c4' : ¬ s.2.2 ≤ yI (ypc 64 (ypd 40 w i)) := Int32.not_le.mpr c4
            rw [if_pos (Or.inr ⟨c3, c4⟩)] at hC
            obtain ⟨u, hu, Wu, Fu⟩ := ih (i + 1) u1 (ysC Y w mx i s) _ (some (.int (yI (ypc 64 (ypd 40 w i))))) (some (.int (ycw Y (Y.bw ||| ypd 40 w i)))) W1 (by omega) hnx
            refine ⟨u, fun Q => ?_, Wu, F1.trans Fu (fun a h => by omega)⟩
            have hu' := hu Q
            rw [hC] at hu' ⊢
            rw [s_61_23]
            simp only [s_61_0, s_61_1, s_61_2, s_61_3, s_61_4, s_61_5, s_61_6, s_61_7, s_61_8, s_61_9, s_61_10, s_61_11, s_61_12, s_61_13, s_61_14, s_61_15, s_61_16, s_61_17, s_61_18, s_61_19, s_61_20, s_61_21, s_61_22, s_61_24, s_61_25, s_61_26, s_61_27, s_61_28, s_61_29, s_61_30, s_61_31, s_61_32, s_61_33, s_61_34, s_61_35, s_61_36, s_61_37, s_61_38, s_61_39, s_61_40, s_61_41, s_61_42, s_61_43, s_61_44, s_61_45, s_61_46, s_61_47, s_61_48, s_61_49, s_61_50, s_61_51, s_61_52, s_61_53, s_61_54, s_61_55, s_61_56, s_61_57, s_61_58, s_61_59, s_61_60, s_61_61, s_61_62, h0, if_true, if_false, g216, c1', W.oo, W.bw, yL_or, hu1, c2, c3, hirr, c4', ne_eq, not_true_eq_false, hm1, Gk_v, Gk_n, xcat_nil, xcat_i, xcat_r, xcat_l, xcat_d, Nat.zero_le, Nat.reduceAdd, Nat.reduceLeDiff, true_and, and_true, ykl_i, ykl_r, ykl_n, ykl_l]
            rw [c3] at hu'
            exact hu'
          · have c4' : s.2.2 ≤ yI (ypc 64 (ypd 40 w i)) := Int32.not_lt.mp c4
            rw [if_neg (fun h => h.elim c2 (fun h' => c4 h'.2))] at hC
            obtain ⟨u, hu, Wu, Fu⟩ := ih (i + 1) u1 s _ (some (.int (yI (ypc 64 (ypd 40 w i))))) (some (.int (ycw Y (Y.bw ||| ypd 40 w i)))) W1 (by omega) hnx
            refine ⟨u, fun Q => ?_, ?_, F1.trans Fu (fun a h => by omega)⟩
            · have hu' := hu Q
              rw [hC]
              rw [s_61_23]
              simp only [s_61_0, s_61_1, s_61_2, s_61_3, s_61_4, s_61_5, s_61_6, s_61_7, s_61_8, s_61_9, s_61_10, s_61_11, s_61_12, s_61_13, s_61_14, s_61_15, s_61_16, s_61_17, s_61_18, s_61_19, s_61_20, s_61_21, s_61_22, s_61_24, s_61_25, s_61_26, s_61_27, s_61_28, s_61_29, s_61_30, s_61_31, s_61_32, s_61_33, s_61_34, s_61_35, s_61_36, s_61_37, s_61_38, s_61_39, s_61_40, s_61_41, s_61_42, s_61_43, s_61_44, s_61_45, s_61_46, s_61_47, s_61_48, s_61_49, s_61_50, s_61_51, s_61_52, s_61_53, s_61_54, s_61_55, s_61_56, s_61_57, s_61_58, s_61_59, s_61_60, s_61_61, s_61_62, h0, if_true, if_false, g216, c1', W.oo, W.bw, yL_or, hu1, c2, c3, hirr, c4', ne_eq, not_true_eq_false, hm1, Gk_v, Gk_n, xcat_nil, xcat_i, xcat_r, xcat_l, xcat_d, Nat.zero_le, Nat.reduceAdd, Nat.reduceLeDiff, true_and, and_true, ykl_i, ykl_r, ykl_n, ykl_l]
              rw [c3] at hu'
              exact hu'
            · exact Wu
        · rw [if_neg (fun h => h.elim c2 (fun h' => c3 h'.1))] at hC
          obtain ⟨u, hu, Wu, Fu⟩ := ih (i + 1) u1 s _ (some (.int (yI (ypc 64 (ypd 40 w i))))) (some (.int (ycw Y (Y.bw ||| ypd 40 w i)))) W1 (by omega) hnx
          refine ⟨u, fun Q => ?_, Wu, F1.trans Fu (fun a h => by omega)⟩
          have hu' := hu Q
          rw [hC]
          rw [s_61_23]
          simp only [s_61_0, s_61_1, s_61_2, s_61_3, s_61_4, s_61_5, s_61_6, s_61_7, s_61_8, s_61_9, s_61_10, s_61_11, s_61_12, s_61_13, s_61_14, s_61_15, s_61_16, s_61_17, s_61_18, s_61_19, s_61_20, s_61_21, s_61_22, s_61_24, s_61_25, s_61_26, s_61_27, s_61_28, s_61_29, s_61_30, s_61_31, s_61_32, s_61_33, s_61_34, s_61_35, s_61_36, s_61_37, s_61_38, s_61_39, s_61_40, s_61_41, s_61_42, s_61_43, s_61_44, s_61_45, s_61_46, s_61_47, s_61_48, s_61_49, s_61_50, s_61_51, s_61_52, s_61_53, s_61_54, s_61_55, s_61_56, s_61_57, s_61_58, s_61_59, s_61_60, s_61_61, s_61_62, h0, if_true, if_false, g216, c1', W.oo, W.bw, yL_or, hu1, c2, c3, ne_eq, not_false_eq_true, hm1, Gk_v, Gk_n, xcat_nil, xcat_i, xcat_r, xcat_l, xcat_d, Nat.zero_le, Nat.reduceAdd, Nat.reduceLeDiff, true_and, and_true, ykl_i, ykl_r, ykl_n, ykl_l]
          exact hu'
    · have c1' : mx < yI (ypc 64 (ypd 40 w i)) := Int32.not_le.mp c1
      rw [if_neg c1] at hC
      obtain ⟨u, hu, Wu, Fu⟩ := ih (i + 1) t s _ (some (.int (yI (ypc 64 (ypd 40 w i))))) l12 W (by omega) hnx
      refine ⟨u, fun Q => ?_, Wu, Fu⟩
      have hu' := hu Q
      rw [hC]
      rw [s_61_23]
      simp only [s_61_0, s_61_1, s_61_2, s_61_3, s_61_4, s_61_5, s_61_6, s_61_7, s_61_8, s_61_9, s_61_10, s_61_11, s_61_12, s_61_13, s_61_14, s_61_15, s_61_16, s_61_17, s_61_18, s_61_19, s_61_20, s_61_21, s_61_22, s_61_24, s_61_25, s_61_26, s_61_27, s_61_28, s_61_29, s_61_30, s_61_31, s_61_32, s_61_33, s_61_34, s_61_35, s_61_36, s_61_37, s_61_38, s_61_39, s_61_40, s_61_41, s_61_42, s_61_43, s_61_44, s_61_45, s_61_46, s_61_47, s_61_48, s_61_49, s_61_50, s_61_51, s_61_52, s_61_53, s_61_54, s_61_55, s_61_56, s_61_57, s_61_58, s_61_59, s_61_60, s_61_61, s_61_62, h0, if_true, if_false, g216, c1', hm1, Gk_v, Gk_n, xcat_nil, xcat_i, xcat_r, xcat_l, xcat_d, Nat.zero_le, Nat.reduceAdd, Nat.reduceLeDiff, true_and, and_true, ykl_i, ykl_r, ykl_n, ykl_l]
      exact hu'
theorem m_61 {t : yT} {Y : yD} {mx : Int32} (W : yW t o Y) : ∃ u, Ra (d + 4) 61 [.ref o, .int mx] (yemb t) (.inl (some (.long (yplan Y (ybadset Y) mx)))) (yemb u) ∧ (yW u o Y ∧ yFr (fun a => a = o + 10) t u) := by
  have hn40 := W.ok.n40
  have h10 := ybadset_10 W.ok
  have hw := ybadset_lt W.ok
  have hw40 : ybadset Y < 2 ^ 40 := Nat.lt_of_lt_of_le hw (Nat.pow_le_pow_right (by decide) hn40)
  obtain ⟨u, hu, Wu, Fu⟩ := l_61 (d := d) (mx := mx) hw hn40 h10 (2 ^ ypc 64 (ybadset Y)) 0 t (0, (41, 11)) 0 none none W (Nat.zero_add _) (fun _ => by rw [ypd_0]; rfl)
  have g37 := fun Q' => m_37 (d := d + 3) W Q'
  have e1 : (-1 : Int64) = Int64.ofNat 18446744073709551615 := rfl
  have e2 : yodd Y.kd Y.n &&& (Y.bw ^^^ 18446744073709551615) = ybadset Y := rfl
  have g216 := fun (Q' : xR → xS → Prop) => m_216 (d := d + 3) (σ := yemb t) (Q := Q') (show ybadset Y < 18446744073709551616 by omega)
  have e3 : (if yI (ypc 64 (ybadset Y)) < 10 then yI (ypc 64 (ybadset Y)) else 10) = yI (ypc 64 (ybadset Y)) := by
    split
    · rfl
    · rename_i h
      have h' : ¬ ypc 64 (ybadset Y) < 10 := fun h1 => h ((yI_lt (m := 10) (by omega) (by decide)).mpr h1)
      have : ypc 64 (ybadset Y) = 10 := by omega
      rw [this]
      rfl
  have e4 := yI_shl (ypc 64 (ybadset Y)) (by omega)
  refine ⟨u, fun Q => ?_, Wu, Fu⟩
  have hu' := hu Q
  show G (d + 4) 61 0 [some (.ref o), some (.int mx), none, none, none, none, none, none, none, none, none, none, none] [] (yemb t) Q ↔ _
  simp only [s_61_0, s_61_1 W.oo, s_61_2, s_61_3 W.oo, s_61_4, s_61_5, s_61_6, s_61_7, s_61_8, s_61_9, s_61_10, s_61_11, s_61_12, s_61_13, s_61_14, s_61_15, s_61_16, s_61_17, s_61_18, s_61_19, s_61_20 xc_i, s_61_21, s_61_22, g37, W.bw, e1, yL_xor, yL_and, e2, g216, e3, e4, Gk_v, Gk_n, xcat_nil, xcat_i, xcat_r, xcat_l, xcat_d, Nat.zero_le, Nat.reduceAdd, Nat.reduceLeDiff, true_and, and_true, ykl_i, ykl_r, ykl_n, ykl_l]
  exact hu'
end
section
variable {d : Nat} {t : yT} {D : yD} {k : Nat} {E : Nat → yD} {s0 s1 : Option yD} {n : Nat} {B : Nat → Nat} {eo en : Int32}
theorem ybadset_due : ybadset (ydue D) = ybadset D := by
  unfold ybadset
  rw [ydue_eq, ysdu_kd, ysdu_n, ysdu_bw]
theorem q_105 (C : yCI t D k E s0 s1 n B eo en) {b : Nat} (hb : b ≤ 10) : ∃ u, Ra (d + 5) 105 [.ref 0, .int (yI b)] (yemb t) (.inl (some (.long (yplan (ydue D) (ybadset D) (yI b))))) (yemb u) ∧ (yCI u D k E s0 s1 n B eo en ∧ yFr (fun a => a < 160) t u) := by
  obtain ⟨u1, h1, W1, F1⟩ := m_31' (d := d + 4) C.1 (o := 19) yO_19 (by decide)
  obtain ⟨u2, h2, W2, F2⟩ := m_53 (d := d + 1) W1
  obtain ⟨u3, h3, W3, F3⟩ := m_61 (d := d) (mx := yI b) W2
  rw [ybadset_due] at h3
  have c1 : ¬ yI b < 0 := yI_nneg (by omega)
  have c2 : yI b ≤ 10 := (yI_le (m := 10) (by omega) (by decide)).mpr (by omega)
  have F : yFr (fun a => (3 ≤ a ∧ a ≤ 5) ∨ (19 ≤ a ∧ a ≤ 30)) t u3 := (F1.trans F2 (P'' := fun a => (3 ≤ a ∧ a ≤ 5) ∨ (19 ≤ a ∧ a ≤ 30)) (fun a h => by omega)).trans F3 (fun a h => by omega)
  refine ⟨u3, fun Q => ?_, yCI_fr C F (fun a h => by omega), F.mono (fun a h => by omega)⟩
  show G (d + 5) 105 0 [some (.ref 0), some (.int (yI b))] [] (yemb t) Q ↔ _
  simp only [s_105_0, s_105_1, s_105_2, s_105_3, s_105_4, s_105_5, s_105_6, s_105_6i, s_105_9, s_105_10, s_105_11, s_105_12, s_105_13, s_105_14, s_105_15, s_105_16, s_105_17, s_105_18, s_105_19, s_105_20, s_105_21, s_105_22, s_105_23, yO_0, yO_7, yO_19, c1, c2, if_true, if_false, h1, h2, h3, Gk_v, Gk_n, xcat_nil, xcat_i, xcat_r, xcat_l, xcat_d, Nat.zero_le, Nat.reduceAdd, Nat.reduceLeDiff, true_and, and_true, ykl_i, ykl_r, ykl_n, ykl_l]
theorem q_105t {b : Int32} (hb : decide (0 ≤ b ∧ b ≤ 10) = false) (hz : t.z.1.1 < 900000) : Ra (d + 5) 105 [.ref 0, .int b] (yemb t) (.inr 0) (yemb t.bp) := by
  intro Q
  have hb' := of_decide_eq_false hb
  show G (d + 5) 105 0 [some (.ref 0), some (.int b)] [] (yemb t) Q ↔ _
  by_cases c1 : b < 0
  · simp only [s_105_0, s_105_1, s_105_2, s_105_3, s_105_4, s_105_5, s_105_6, s_105_6i, s_105_9, s_105_10, s_105_11, s_105_12, s_105_13, s_105_14, s_105_15, s_105_16, s_105_17, s_105_18, s_105_19, s_105_20, s_105_21, s_105_22, s_105_23, c1, if_true, xbump_z hz, xbump_emb, Gk_v, Gk_n, xcat_nil, xcat_i, xcat_r, xcat_l, xcat_d, Nat.zero_le, Nat.reduceAdd, Nat.reduceLeDiff, true_and, and_true, ykl_i, ykl_r, ykl_n, ykl_l]
  · have c2 : ¬ b ≤ 10 := fun h => hb' ⟨Int32.not_lt.mp c1, h⟩
    simp only [s_105_0, s_105_1, s_105_2, s_105_3, s_105_4, s_105_5, s_105_6, s_105_6i, s_105_9, s_105_10, s_105_11, s_105_12, s_105_13, s_105_14, s_105_15, s_105_16, s_105_17, s_105_18, s_105_19, s_105_20, s_105_21, s_105_22, s_105_23, c1, c2, if_false, xbump_z hz, xbump_emb, Gk_v, Gk_n, xcat_nil, xcat_i, xcat_r, xcat_l, xcat_d, Nat.zero_le, Nat.reduceAdd, Nat.reduceLeDiff, true_and, and_true, ykl_i, ykl_r, ykl_n, ykl_l]
end

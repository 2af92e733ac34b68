/-! ===== the law's own curves ===== -/
/-- a node and what hangs on it, as items behind one another -/
def pV (σ : xS) : Nat → Nat → List Int32 → Prop
  | 0, _, _ => False
  | k + 1, a, l => a < 1000000 ∧ ∃ (kd nm : Int32) (u w : Value), σ.1 a = some (.inr (10, [.int kd, .int nm, u, w])) ∧ ((kd = 0 ∧ ∃ m : Nat, m < 10000 ∧ (nm = yI m ∧ l = [yI m])) ∨ ((kd = 1 ∧ ((nm = 0 ∧ l = [-1]) ∨ (nm = 1 ∧ l = [-2]))) ∨ ((kd = 2 ∨ (kd = 3 ∨ (kd = 4 ∨ kd = 5))) ∧ ∃ b c lb lc, (u = .ref b ∧ w = .ref c) ∧ (pV σ k b lb ∧ (pV σ k c lc ∧ l = lb ++ lc ++ [-1 - kd])))))
/-- items worked off on a stack -/
def pstk (x lv : Int) : List Int32 → List Int → List Int
  | [], st => st
  | c :: r, st => if -2 ≤ c then pstk x lv r (yitem c x lv :: st) else (match st with
    | b :: a :: q => pstk x lv r (yclim (yop c a b) :: q)
    | _ => [])
theorem pstk_app {x lv : Int} : ∀ (l1 l2 : List Int32) (st v : List Int), pstk x lv l1 st = v → v ≠ [] → pstk x lv (l1 ++ l2) st = pstk x lv l2 v := by
  intro l1
  induction l1 with
  | nil => intro l2 st v h _; rw [← h]; rfl
  | cons c r ih =>
    intro l2 st v h hv
    simp only [List.cons_append, pstk] at h ⊢
    split
    · rename_i hc
      rw [if_pos hc] at h
      exact ih l2 _ v h hv
    · rename_i hc
      rw [if_neg hc] at h
      rcases st with _ | ⟨b, _ | ⟨a, q⟩⟩
      · exact absurd h.symm hv
      · exact absurd h.symm hv
      · exact ih l2 _ v h hv
theorem pxc_l {x : Int64} : xcat [.long x] ≤ 8 := Nat.le_of_ble_eq_true rfl
theorem pmm {v : Int} (hv : -1000000000000 ≤ v ∧ v ≤ 1000000000000) : (if (if Int64.ofInt v < 1000000 then Int64.ofInt v else 1000000) < -1000000 then -1000000 else (if Int64.ofInt v < 1000000 then Int64.ofInt v else 1000000)) = Int64.ofInt (yclim v) := by
  have h1 : Int64.ofInt v < 1000000 ↔ v < 1000000 := yJ_lt (b := 1000000) (by omega) (by omega)
  unfold yclim
  by_cases c1 : v < 1000000
  · rw [if_pos (h1.mpr c1), if_neg (show ¬ 1000000 < v by omega)]
    have h2 : Int64.ofInt v < -1000000 ↔ v < -1000000 := yJ_lt (b := -1000000) (by omega) (by omega)
    by_cases c2 : v < -1000000
    · rw [if_pos (h2.mpr c2), if_pos c2]
      rfl
    · rw [if_neg (fun h => c2 (h2.mp h)), if_neg c2]
  · rw [if_neg (fun h => c1 (h1.mp h)), if_neg (by decide)]
    by_cases c2 : 1000000 < v
    · rw [if_pos c2]; rfl
    · rw [if_neg c2, if_neg (by omega)]
      have : v = 1000000 := by omega
      rw [this]
      rfl
section
variable {σ τ : xS} {x lv : Int}
theorem l_129 {d a : Nat} {kd nm : Int32} {u w : Value} (ha : a < 1000000) (h : σ.1 a = some (.inr (10, [.int kd, .int nm, u, w]))) (hk : kd = 2 ∨ (kd = 3 ∨ (kd = 4 ∨ kd = 5))) {va vb : Int} (h1 : ysm va) (h2 : ysm vb) {l1 l2 l3 l4 l6 l8 l9 l10 : Option Value} : Ga d 129 30 [some (.ref a), l1, l2, l3, l4, some (.long (Int64.ofInt va)), l6, some (.long (Int64.ofInt vb)), none, l9, l10] [] σ (.inl (some (.long (Int64.ofInt (yclim (yop (-1 - kd) va vb)))))) σ := by
  intro Q
  have hr : xRd σ a = some (.inr (10, [.int kd, .int nm, u, w])) := by rw [yrd_lt ha, h]
  have hz : Int64.ofInt vb = 0 ↔ vb = 0 := yJ_eq (b := 0) (by omega) (by omega)
  have hp : Int64.ofInt va + Int64.ofInt vb = Int64.ofInt (va + vb) := (Int64.ofInt_add va vb).symm
  have hs : Int64.ofInt va - Int64.ofInt vb = Int64.ofInt (va - vb) := (Int64.ofInt_sub va vb).symm
  have hm : Int64.ofInt va * Int64.ofInt vb = Int64.ofInt (va * vb) := (Int64.ofInt_mul va vb).symm
  have hb := yop_big (c := -1 - kd) h1 h2
  have hb' := pmm hb
  have e8 : ykl none = none := rfl
  rcases hk with rfl | rfl | rfl | rfl
  · have e : yop (-1 - 2) va vb = va + vb := rfl
    rw [e] at hb hb'
    rw [e, ← hb']
    simp only [s_129_0, s_129_1, s_129_2, s_129_3, s_129_4, s_129_5, s_129_6, s_129_7, s_129_8, s_129_9, s_129_10, s_129_11, s_129_12, s_129_13, s_129_14, s_129_15, s_129_16, s_129_17, s_129_18, s_129_19, s_129_20, s_129_21, s_129_22, s_129_23, s_129_24, s_129_25, s_129_26, s_129_27, s_129_28, s_129_29, s_129_30, s_129_31, s_129_32, s_129_33, s_129_34, s_129_35, s_129_36, s_129_37, s_129_38, s_129_39, s_129_40, s_129_41, s_129_42, s_129_43, s_129_44, s_129_45, s_129_46, s_129_47, s_129_48, s_129_49, s_129_50, s_129_51, s_129_52, s_129_53, s_129_54, s_129_55, s_129_56, s_129_57, s_129_58, s_129_59, s_129_60, s_129_61, s_129_63, s_129_64, s_129_65, s_129_66, s_129_67, s_129_68, s_129_69, s_129_67 pxc_l, s_129_68 xc_nil, hr, hp, e8, ne_eq, not_true_eq_false, if_false, show ¬ (2 : Int32) = 3 from by decide, show ¬ (2 : Int32) = 4 from by decide, hgf_s, hsel_0, hsel_1, hsel_2, hsel_3, hsel_4, hsel_5, hsel_6, hsel_7, hsel_8, hset_0, hset_1, hset_2, hset_3, hset_4, hset_5, hset_6, hset_7, hset_8, hpf_s, hcl_s, hai_s, hpi_0, hpi_1, hln_0, hln_1, List.length_cons, List.length_nil, xwr_1, xwr_2, xnew_1, xnew_n, xnew_s, xnew_z, Nat.reduceLT, ite_true, and_self, hp_8_0, hp_8_1, hn_8_1, hp_8_2, hn_8_2, hp_9_0, hp_9_1, hp_9_2, hp_9_3, hp_9_4, hp_9_5, hn_9_5, hp_9_6, hn_9_6, hp_9_7, hn_9_7, hp_10_0, hp_10_1, hp_10_2, hn_10_2, hp_10_3, hn_10_3, hp_11_0, hp_12_0, hn_12_0, hp_12_1, hp_12_2, hp_12_3, hp_12_4, hp_12_5, hn_12_5, hp_12_6, hn_12_6, hp_12_7, hp_12_8, hp_13_0, hn_13_0, hp_13_1, hp_13_2, hp_13_3, hp_14_0, hn_14_0, hp_14_1, hp_14_2, hp_14_3, xdef_8, xdef_9, xdef_10, xdef_11, xdef_12, xdef_13, xdef_14, Gk_v, Gk_n, xcat_nil, xcat_i, xcat_r, xcat_l, xcat_d, Nat.zero_le, Nat.reduceAdd, Nat.reduceLeDiff, true_and, and_true, ykl_i, ykl_r, ykl_n, ykl_l]
  · have e : yop (-1 - 3) va vb = va - vb := rfl
    rw [e] at hb hb'
    rw [e, ← hb']
    simp only [s_129_0, s_129_1, s_129_2, s_129_3, s_129_4, s_129_5, s_129_6, s_129_7, s_129_8, s_129_9, s_129_10, s_129_11, s_129_12, s_129_13, s_129_14, s_129_15, s_129_16, s_129_17, s_129_18, s_129_19, s_129_20, s_129_21, s_129_22, s_129_23, s_129_24, s_129_25, s_129_26, s_129_27, s_129_28, s_129_29, s_129_30, s_129_31, s_129_32, s_129_33, s_129_34, s_129_35, s_129_36, s_129_37, s_129_38, s_129_39, s_129_40, s_129_41, s_129_42, s_129_43, s_129_44, s_129_45, s_129_46, s_129_47, s_129_48, s_129_49, s_129_50, s_129_51, s_129_52, s_129_53, s_129_54, s_129_55, s_129_56, s_129_57, s_129_58, s_129_59, s_129_60, s_129_61, s_129_63, s_129_64, s_129_65, s_129_66, s_129_67, s_129_68, s_129_69, s_129_67 pxc_l, s_129_68 xc_nil, hr, hs, e8, ne_eq, not_true_eq_false, not_false_eq_true, if_true, if_false, show ¬ (3 : Int32) = 2 from by decide, show ¬ (3 : Int32) = 4 from by decide, hgf_s, hsel_0, hsel_1, hsel_2, hsel_3, hsel_4, hsel_5, hsel_6, hsel_7, hsel_8, hset_0, hset_1, hset_2, hset_3, hset_4, hset_5, hset_6, hset_7, hset_8, hpf_s, hcl_s, hai_s, hpi_0, hpi_1, hln_0, hln_1, List.length_cons, List.length_nil, xwr_1, xwr_2, xnew_1, xnew_n, xnew_s, xnew_z, Nat.reduceLT, ite_true, and_self, hp_8_0, hp_8_1, hn_8_1, hp_8_2, hn_8_2, hp_9_0, hp_9_1, hp_9_2, hp_9_3, hp_9_4, hp_9_5, hn_9_5, hp_9_6, hn_9_6, hp_9_7, hn_9_7, hp_10_0, hp_10_1, hp_10_2, hn_10_2, hp_10_3, hn_10_3, hp_11_0, hp_12_0, hn_12_0, hp_12_1, hp_12_2, hp_12_3, hp_12_4, hp_12_5, hn_12_5, hp_12_6, hn_12_6, hp_12_7, hp_12_8, hp_13_0, hn_13_0, hp_13_1, hp_13_2, hp_13_3, hp_14_0, hn_14_0, hp_14_1, hp_14_2, hp_14_3, xdef_8, xdef_9, xdef_10, xdef_11, xdef_12, xdef_13, xdef_14, Gk_v, Gk_n, xcat_nil, xcat_i, xcat_r, xcat_l, xcat_d, Nat.zero_le, Nat.reduceAdd, Nat.reduceLeDiff, true_and, and_true, ykl_i, ykl_r, ykl_n, ykl_l]
  · have e : yop (-1 - 4) va vb = va * vb := rfl
    rw [e] at hb hb'
    rw [e, ← hb']
    simp only [s_129_0, s_129_1, s_129_2, s_129_3, s_129_4, s_129_5, s_129_6, s_129_7, s_129_8, s_129_9, s_129_10, s_129_11, s_129_12, s_129_13, s_129_14, s_129_15, s_129_16, s_129_17, s_129_18, s_129_19, s_129_20, s_129_21, s_129_22, s_129_23, s_129_24, s_129_25, s_129_26, s_129_27, s_129_28, s_129_29, s_129_30, s_129_31, s_129_32, s_129_33, s_129_34, s_129_35, s_129_36, s_129_37, s_129_38, s_129_39, s_129_40, s_129_41, s_129_42, s_129_43, s_129_44, s_129_45, s_129_46, s_129_47, s_129_48, s_129_49, s_129_50, s_129_51, s_129_52, s_129_53, s_129_54, s_129_55, s_129_56, s_129_57, s_129_58, s_129_59, s_129_60, s_129_61, s_129_63, s_129_64, s_129_65, s_129_66, s_129_67, s_129_68, s_129_69, s_129_67 pxc_l, s_129_68 xc_nil, hr, hm, e8, ne_eq, not_true_eq_false, not_false_eq_true, if_true, if_false, show ¬ (4 : Int32) = 2 from by decide, show ¬ (4 : Int32) = 3 from by decide, hgf_s, hsel_0, hsel_1, hsel_2, hsel_3, hsel_4, hsel_5, hsel_6, hsel_7, hsel_8, hset_0, hset_1, hset_2, hset_3, hset_4, hset_5, hset_6, hset_7, hset_8, hpf_s, hcl_s, hai_s, hpi_0, hpi_1, hln_0, hln_1, List.length_cons, List.length_nil, xwr_1, xwr_2, xnew_1, xnew_n, xnew_s, xnew_z, Nat.reduceLT, ite_true, and_self, hp_8_0, hp_8_1, hn_8_1, hp_8_2, hn_8_2, hp_9_0, hp_9_1, hp_9_2, hp_9_3, hp_9_4, hp_9_5, hn_9_5, hp_9_6, hn_9_6, hp_9_7, hn_9_7, hp_10_0, hp_10_1, hp_10_2, hn_10_2, hp_10_3, hn_10_3, hp_11_0, hp_12_0, hn_12_0, hp_12_1, hp_12_2, hp_12_3, hp_12_4, hp_12_5, hn_12_5, hp_12_6, hn_12_6, hp_12_7, hp_12_8, hp_13_0, hn_13_0, hp_13_1, hp_13_2, hp_13_3, hp_14_0, hn_14_0, hp_14_1, hp_14_2, hp_14_3, xdef_8, xdef_9, xdef_10, xdef_11, xdef_12, xdef_13, xdef_14, Gk_v, Gk_n, xcat_nil, xcat_i, xcat_r, xcat_l, xcat_d, Nat.zero_le, Nat.reduceAdd, Nat.reduceLeDiff, true_and, and_true, ykl_i, ykl_r, ykl_n, ykl_l]
  · have e : yop (-1 - 5) va vb = if vb = 0 then 0 else Int.tdiv va vb := rfl
    rw [e] at hb hb'
    rw [e, ← hb']
    by_cases hv : vb = 0
    · have hz' := hz.mpr hv
      have e0 : Int64.ofInt (if vb = 0 then 0 else Int.tdiv va vb) = 0 := by rw [if_pos hv]; rfl
      rw [e0]
      have l0 : lg_cmp 0 0 = 0 := rfl
      simp only [s_129_0, s_129_1, s_129_2, s_129_3, s_129_4, s_129_5, s_129_6, s_129_7, s_129_8, s_129_9, s_129_10, s_129_11, s_129_12, s_129_13, s_129_14, s_129_15, s_129_16, s_129_17, s_129_18, s_129_19, s_129_20, s_129_21, s_129_22, s_129_23, s_129_24, s_129_25, s_129_26, s_129_27, s_129_28, s_129_29, s_129_30, s_129_31, s_129_32, s_129_33, s_129_34, s_129_35, s_129_36, s_129_37, s_129_38, s_129_39, s_129_40, s_129_41, s_129_42, s_129_43, s_129_44, s_129_45, s_129_46, s_129_47, s_129_48, s_129_49, s_129_50, s_129_51, s_129_52, s_129_53, s_129_54, s_129_55, s_129_56, s_129_57, s_129_58, s_129_59, s_129_60, s_129_61, s_129_63, s_129_64, s_129_65, s_129_66, s_129_67, s_129_68, s_129_69, s_129_67 pxc_l, s_129_68 xc_nil, hr, hz', l0, e8, ne_eq, not_true_eq_false, not_false_eq_true, if_true, if_false, show ¬ (5 : Int32) = 2 from by decide, show ¬ (5 : Int32) = 3 from by decide, show ¬ (5 : Int32) = 4 from by decide, hgf_s, hsel_0, hsel_1, hsel_2, hsel_3, hsel_4, hsel_5, hsel_6, hsel_7, hsel_8, hset_0, hset_1, hset_2, hset_3, hset_4, hset_5, hset_6, hset_7, hset_8, hpf_s, hcl_s, hai_s, hpi_0, hpi_1, hln_0, hln_1, List.length_cons, List.length_nil, xwr_1, xwr_2, xnew_1, xnew_n, xnew_s, xnew_z, Nat.reduceLT, ite_true, and_self, hp_8_0, hp_8_1, hn_8_1, hp_8_2, hn_8_2, hp_9_0, hp_9_1, hp_9_2, hp_9_3, hp_9_4, hp_9_5, hn_9_5, hp_9_6, hn_9_6, hp_9_7, hn_9_7, hp_10_0, hp_10_1, hp_10_2, hn_10_2, hp_10_3, hn_10_3, hp_11_0, hp_12_0, hn_12_0, hp_12_1, hp_12_2, hp_12_3, hp_12_4, hp_12_5, hn_12_5, hp_12_6, hn_12_6, hp_12_7, hp_12_8, hp_13_0, hn_13_0, hp_13_1, hp_13_2, hp_13_3, hp_14_0, hn_14_0, hp_14_1, hp_14_2, hp_14_3, xdef_8, xdef_9, xdef_10, xdef_11, xdef_12, xdef_13, xdef_14, Gk_v, Gk_n, xcat_nil, xcat_i, xcat_r, xcat_l, xcat_d, Nat.zero_le, Nat.reduceAdd, Nat.reduceLeDiff, true_and, and_true, ykl_i, ykl_r, ykl_n, ykl_l]
    · have hz' : ¬ Int64.ofInt vb = 0 := fun h => hv (hz.mp h)
      have e0 : Int64.ofInt (if vb = 0 then 0 else Int.tdiv va vb) = Int64.ofInt va / Int64.ofInt vb := by
        rw [if_neg hv, yJ_div (a := va) (b := vb) (by omega) (by omega)]
      rw [e0]
      simp only [s_129_0, s_129_1, s_129_2, s_129_3, s_129_4, s_129_5, s_129_6, s_129_7, s_129_8, s_129_9, s_129_10, s_129_11, s_129_12, s_129_13, s_129_14, s_129_15, s_129_16, s_129_17, s_129_18, s_129_19, s_129_20, s_129_21, s_129_22, s_129_23, s_129_24, s_129_25, s_129_26, s_129_27, s_129_28, s_129_29, s_129_30, s_129_31, s_129_32, s_129_33, s_129_34, s_129_35, s_129_36, s_129_37, s_129_38, s_129_39, s_129_40, s_129_41, s_129_42, s_129_43, s_129_44, s_129_45, s_129_46, s_129_47, s_129_48, s_129_49, s_129_50, s_129_51, s_129_52, s_129_53, s_129_54, s_129_55, s_129_56, s_129_57, s_129_58, s_129_59, s_129_60, s_129_61, s_129_63, s_129_64, s_129_65, s_129_66, s_129_67, s_129_68, s_129_69, s_129_62 hz', s_129_67 pxc_l, s_129_68 xc_nil, hr, hz', lg_cmp0, e8, ne_eq, not_true_eq_false, not_false_eq_true, if_true, if_false, show ¬ (5 : Int32) = 2 from by decide, show ¬ (5 : Int32) = 3 from by decide, show ¬ (5 : Int32) = 4 from by decide, hgf_s, hsel_0, hsel_1, hsel_2, hsel_3, hsel_4, hsel_5, hsel_6, hsel_7, hsel_8, hset_0, hset_1, hset_2, hset_3, hset_4, hset_5, hset_6, hset_7, hset_8, hpf_s, hcl_s, hai_s, hpi_0, hpi_1, hln_0, hln_1, List.length_cons, List.length_nil, xwr_1, xwr_2, xnew_1, xnew_n, xnew_s, xnew_z, Nat.reduceLT, ite_true, and_self, hp_8_0, hp_8_1, hn_8_1, hp_8_2, hn_8_2, hp_9_0, hp_9_1, hp_9_2, hp_9_3, hp_9_4, hp_9_5, hn_9_5, hp_9_6, hn_9_6, hp_9_7, hn_9_7, hp_10_0, hp_10_1, hp_10_2, hn_10_2, hp_10_3, hn_10_3, hp_11_0, hp_12_0, hn_12_0, hp_12_1, hp_12_2, hp_12_3, hp_12_4, hp_12_5, hn_12_5, hp_12_6, hn_12_6, hp_12_7, hp_12_8, hp_13_0, hn_13_0, hp_13_1, hp_13_2, hp_13_3, hp_14_0, hn_14_0, hp_14_1, hp_14_2, hp_14_3, xdef_8, xdef_9, xdef_10, xdef_11, xdef_12, xdef_13, xdef_14, Gk_v, Gk_n, xcat_nil, xcat_i, xcat_r, xcat_l, xcat_d, Nat.zero_le, Nat.reduceAdd, Nat.reduceLeDiff, true_and, and_true, ykl_i, ykl_r, ykl_n, ykl_l]
theorem pV_no (Z : ∀ b e, σ.1 b = some e → pco e → τ.1 b = some e) : ∀ k a l, pV σ k a l → pV τ k a l := by
  intro k
  induction k with
  | zero => intro a l h; exact h
  | succ k ih =>
    intro a l h
    obtain ⟨ha, kd, nm, u, w, hc, h⟩ := h
    refine ⟨ha, kd, nm, u, w, Z a _ hc (Or.inr ⟨_, rfl⟩), ?_⟩
    rcases h with h | h | ⟨h1, b, c, lb, lc, h2, h3, h4, h5⟩
    · exact Or.inl h
    · exact Or.inr (Or.inl h)
    · exact Or.inr (Or.inr ⟨h1, b, c, lb, lc, h2, ih b lb h3, ih c lc h4, h5⟩)
theorem m_129 (hx : ysm x) (hl : ysm lv) {d : Nat} : ∀ k a l, pV σ k a l → ∃ v, ysm v ∧ ((∀ st, pstk x lv l st = v :: st) ∧ Ra (d + k) 129 [.ref a, .long (Int64.ofInt x), .long (Int64.ofInt lv)] σ (.inl (some (.long (Int64.ofInt v)))) σ) := by
  intro k
  induction k with
  | zero => intro a l h; exact h.elim
  | succ k ih =>
    intro a l h
    obtain ⟨ha, kd, nm, u, w, hc, h⟩ := h
    have hr : xRd σ a = some (.inr (10, [.int kd, .int nm, u, w])) := by rw [yrd_lt ha, hc]
    rcases h with ⟨rfl, m, hm, rfl, rfl⟩ | ⟨rfl, ⟨rfl, rfl⟩ | ⟨rfl, rfl⟩⟩ | ⟨hk, b, c, lb, lc, ⟨rfl, rfl⟩, h3, h4, h5⟩
    · have e1 : (yI m).toInt64 = Int64.ofInt m := by rw [yI_i, yi_J (v := m) (by omega)]
      have c1 : -2 ≤ yI m := by rw [Int32.le_iff_toInt_le, yI_toInt (by omega)]; show (-2 : Int) ≤ _; omega
      have c2 : 0 ≤ yI m := by rw [Int32.le_iff_toInt_le, yI_toInt (by omega)]; show (0 : Int) ≤ _; omega
      refine ⟨m, ⟨by omega, by omega⟩, fun st => ?_, fun Q => ?_⟩
      · simp only [pstk, c1, if_true, yitem, c2]
        rw [yI_toInt (by omega)]
      · show G (d + (k + 1)) 129 0 [some (.ref a), some (.long _), none, some (.long _), none, none, none, none, none, none, none] [] σ Q ↔ _
        simp only [s_129_0, s_129_1, s_129_2, s_129_3, s_129_4, s_129_5, s_129_6, s_129_7, s_129_8, s_129_9, s_129_10, s_129_11, s_129_12, s_129_13, s_129_14, s_129_15, s_129_16, s_129_17, s_129_18, s_129_19, s_129_20, s_129_21, s_129_22, s_129_23, s_129_24, s_129_25, s_129_26, s_129_27, s_129_28, s_129_29, s_129_30, s_129_31, s_129_32, s_129_33, s_129_34, s_129_35, s_129_36, s_129_37, s_129_38, s_129_39, s_129_40, s_129_41, s_129_42, s_129_43, s_129_44, s_129_45, s_129_46, s_129_47, s_129_48, s_129_49, s_129_50, s_129_51, s_129_52, s_129_53, s_129_54, s_129_55, s_129_56, s_129_57, s_129_58, s_129_59, s_129_60, s_129_61, s_129_63, s_129_64, s_129_65, s_129_66, s_129_69, hr, e1, ne_eq, not_true_eq_false, if_false, show ¬ (2 : Int32) ≤ 0 from by decide, hgf_s, hsel_0, hsel_1, hsel_2, hsel_3, hsel_4, hsel_5, hsel_6, hsel_7, hsel_8, hset_0, hset_1, hset_2, hset_3, hset_4, hset_5, hset_6, hset_7, hset_8, hpf_s, hcl_s, hai_s, hpi_0, hpi_1, hln_0, hln_1, List.length_cons, List.length_nil, xwr_1, xwr_2, xnew_1, xnew_n, xnew_s, xnew_z, Nat.reduceLT, ite_true, and_self, hp_8_0, hp_8_1, hn_8_1, hp_8_2, hn_8_2, hp_9_0, hp_9_1, hp_9_2, hp_9_3, hp_9_4, hp_9_5, hn_9_5, hp_9_6, hn_9_6, hp_9_7, hn_9_7, hp_10_0, hp_10_1, hp_10_2, hn_10_2, hp_10_3, hn_10_3, hp_11_0, hp_12_0, hn_12_0, hp_12_1, hp_12_2, hp_12_3, hp_12_4, hp_12_5, hn_12_5, hp_12_6, hn_12_6, hp_12_7, hp_12_8, hp_13_0, hn_13_0, hp_13_1, hp_13_2, hp_13_3, hp_14_0, hn_14_0, hp_14_1, hp_14_2, hp_14_3, xdef_8, xdef_9, xdef_10, xdef_11, xdef_12, xdef_13, xdef_14, Gk_v, Gk_n, xcat_nil, xcat_i, xcat_r, xcat_l, xcat_d, Nat.zero_le, Nat.reduceAdd, Nat.reduceLeDiff, true_and, and_true, ykl_i, ykl_r, ykl_n, ykl_l]
    · refine ⟨x, hx, fun st => ?_, fun Q => ?_⟩
      · simp only [pstk, show (-2 : Int32) ≤ -1 from by decide, show ¬ (0 : Int32) ≤ -1 from by decide, if_true, if_false, yitem]
      · show G (d + (k + 1)) 129 0 [some (.ref a), some (.long _), none, some (.long _), none, none, none, none, none, none, none] [] σ Q ↔ _
        simp only [s_129_0, s_129_1, s_129_2, s_129_3, s_129_4, s_129_5, s_129_6, s_129_7, s_129_8, s_129_9, s_129_10, s_129_11, s_129_12, s_129_13, s_129_14, s_129_15, s_129_16, s_129_17, s_129_18, s_129_19, s_129_20, s_129_21, s_129_22, s_129_23, s_129_24, s_129_25, s_129_26, s_129_27, s_129_28, s_129_29, s_129_30, s_129_31, s_129_32, s_129_33, s_129_34, s_129_35, s_129_36, s_129_37, s_129_38, s_129_39, s_129_40, s_129_41, s_129_42, s_129_43, s_129_44, s_129_45, s_129_46, s_129_47, s_129_48, s_129_49, s_129_50, s_129_51, s_129_52, s_129_53, s_129_54, s_129_55, s_129_56, s_129_57, s_129_58, s_129_59, s_129_60, s_129_61, s_129_63, s_129_64, s_129_65, s_129_66, s_129_69, hr, ne_eq, not_true_eq_false, not_false_eq_true, if_true, if_false, show ¬ (2 : Int32) ≤ 1 from by decide, show ¬ (1 : Int32) = 0 from by decide, hgf_s, hsel_0, hsel_1, hsel_2, hsel_3, hsel_4, hsel_5, hsel_6, hsel_7, hsel_8, hset_0, hset_1, hset_2, hset_3, hset_4, hset_5, hset_6, hset_7, hset_8, hpf_s, hcl_s, hai_s, hpi_0, hpi_1, hln_0, hln_1, List.length_cons, List.length_nil, xwr_1, xwr_2, xnew_1, xnew_n, xnew_s, xnew_z, Nat.reduceLT, ite_true, and_self, hp_8_0, hp_8_1, hn_8_1, hp_8_2, hn_8_2, hp_9_0, hp_9_1, hp_9_2, hp_9_3, hp_9_4, hp_9_5, hn_9_5, hp_9_6, hn_9_6, hp_9_7, hn_9_7, hp_10_0, hp_10_1, hp_10_2, hn_10_2, hp_10_3, hn_10_3, hp_11_0, hp_12_0, hn_12_0, hp_12_1, hp_12_2, hp_12_3, hp_12_4, hp_12_5, hn_12_5, hp_12_6, hn_12_6, hp_12_7, hp_12_8, hp_13_0, hn_13_0, hp_13_1, hp_13_2, hp_13_3, hp_14_0, hn_14_0, hp_14_1, hp_14_2, hp_14_3, xdef_8, xdef_9, xdef_10, xdef_11, xdef_12, xdef_13, xdef_14, Gk_v, Gk_n, xcat_nil, xcat_i, xcat_r, xcat_l, xcat_d, Nat.zero_le, Nat.reduceAdd, Nat.reduceLeDiff, true_and, and_true, ykl_i, ykl_r, ykl_n, ykl_l]
    · refine ⟨lv, hl, fun st => ?_, fun Q => ?_⟩
      · simp only [pstk, show (-2 : Int32) ≤ -2 from by decide, show ¬ (0 : Int32) ≤ -2 from by decide, show ¬ (-2 : Int32) = -1 from by decide, if_true, if_false, yitem]
      · show G (d + (k + 1)) 129 0 [some (.ref a), some (.long _), none, some (.long _), none, none, none, none, none, none, none] [] σ Q ↔ _
        simp only [s_129_0, s_129_1, s_129_2, s_129_3, s_129_4, s_129_5, s_129_6, s_129_7, s_129_8, s_129_9, s_129_10, s_129_11, s_129_12, s_129_13, s_129_14, s_129_15, s_129_16, s_129_17, s_129_18, s_129_19, s_129_20, s_129_21, s_129_22, s_129_23, s_129_24, s_129_25, s_129_26, s_129_27, s_129_28, s_129_29, s_129_30, s_129_31, s_129_32, s_129_33, s_129_34, s_129_35, s_129_36, s_129_37, s_129_38, s_129_39, s_129_40, s_129_41, s_129_42, s_129_43, s_129_44, s_129_45, s_129_46, s_129_47, s_129_48, s_129_49, s_129_50, s_129_51, s_129_52, s_129_53, s_129_54, s_129_55, s_129_56, s_129_57, s_129_58, s_129_59, s_129_60, s_129_61, s_129_63, s_129_64, s_129_65, s_129_66, s_129_69, hr, ne_eq, not_true_eq_false, not_false_eq_true, if_true, if_false, show ¬ (2 : Int32) ≤ 1 from by decide, show ¬ (1 : Int32) = 0 from by decide, hgf_s, hsel_0, hsel_1, hsel_2, hsel_3, hsel_4, hsel_5, hsel_6, hsel_7, hsel_8, hset_0, hset_1, hset_2, hset_3, hset_4, hset_5, hset_6, hset_7, hset_8, hpf_s, hcl_s, hai_s, hpi_0, hpi_1, hln_0, hln_1, List.length_cons, List.length_nil, xwr_1, xwr_2, xnew_1, xnew_n, xnew_s, xnew_z, Nat.reduceLT, ite_true, and_self, hp_8_0, hp_8_1, hn_8_1, hp_8_2, hn_8_2, hp_9_0, hp_9_1, hp_9_2, hp_9_3, hp_9_4, hp_9_5, hn_9_5, hp_9_6, hn_9_6, hp_9_7, hn_9_7, hp_10_0, hp_10_1, hp_10_2, hn_10_2, hp_10_3, hn_10_3, hp_11_0, hp_12_0, hn_12_0, hp_12_1, hp_12_2, hp_12_3, hp_12_4, hp_12_5, hn_12_5, hp_12_6, hn_12_6, hp_12_7, hp_12_8, hp_13_0, hn_13_0, hp_13_1, hp_13_2, hp_13_3, hp_14_0, hn_14_0, hp_14_1, hp_14_2, hp_14_3, xdef_8, xdef_9, xdef_10, xdef_11, xdef_12, xdef_13, xdef_14, Gk_v, Gk_n, xcat_nil, xcat_i, xcat_r, xcat_l, xcat_d, Nat.zero_le, Nat.reduceAdd, Nat.reduceLeDiff, true_and, and_true, ykl_i, ykl_r, ykl_n, ykl_l]
    · obtain ⟨vb, b1, b2, b3⟩ := ih b lb h3
      obtain ⟨vc, c1, c2, c3⟩ := ih c lc h4
      have hb := h3
      have hcc := h4
      cases k with
      | zero => exact hb.elim
      | succ k =>
      obtain ⟨hb0, kb, nb, ub, wb, hbc, -⟩ := hb
      obtain ⟨hc0, kc, nc, uc, wc, hcd, -⟩ := hcc
      have rb : xRd σ b = some (.inr (10, [.int kb, .int nb, ub, wb])) := by rw [yrd_lt hb0, hbc]
      have rc : xRd σ c = some (.inr (10, [.int kc, .int nc, uc, wc])) := by rw [yrd_lt hc0, hcd]
      have hop := l_129 (d := d + (k + 1 + 1)) (l1 := some (.long (Int64.ofInt x))) (l2 := none) (l3 := some (.long (Int64.ofInt lv))) (l4 := none) (l6 := none) (l8 := none) (l9 := none) (l10 := none) ha hc hk b1 c1
      refine ⟨yclim (yop (-1 - kd) vb vc), yclim_sm _, fun st => ?_, fun Q => ?_⟩
      · rw [h5, pstk_app _ _ _ _ (pstk_app _ _ _ _ (b2 st) (by simp)) (by rw [c2]; simp), c2]
        have : ¬ (-2 : Int32) ≤ -1 - kd := by rcases hk with rfl | rfl | rfl | rfl <;> decide
        simp only [pstk, this, if_false]
      · have h2 : (2 : Int32) ≤ kd := by rcases hk with rfl | rfl | rfl | rfl <;> decide
        have ho := hop Q
        rw [show d + (k + 1 + 1) = (d + (k + 1)) + 1 from rfl] at ho ⊢
        show G ((d + (k + 1)) + 1) 129 0 [some (.ref a), some (.long _), none, some (.long _), none, none, none, none, none, none, none] [] σ Q ↔ _
        simp only [s_129_0, s_129_1, s_129_2, s_129_3, s_129_18, s_129_19, s_129_20, s_129_21, s_129_22, s_129_23, s_129_24, s_129_25, s_129_26, s_129_27, s_129_28, s_129_29, hr, rb, rc, b3 _, c3 _, h2, if_true, hgf_s, hsel_0, hsel_1, hsel_2, hsel_3, hsel_4, hsel_5, hsel_6, hsel_7, hsel_8, hset_0, hset_1, hset_2, hset_3, hset_4, hset_5, hset_6, hset_7, hset_8, hpf_s, hcl_s, hai_s, hpi_0, hpi_1, hln_0, hln_1, List.length_cons, List.length_nil, xwr_1, xwr_2, xnew_1, xnew_n, xnew_s, xnew_z, Nat.reduceLT, ite_true, and_self, hp_8_0, hp_8_1, hn_8_1, hp_8_2, hn_8_2, hp_9_0, hp_9_1, hp_9_2, hp_9_3, hp_9_4, hp_9_5, hn_9_5, hp_9_6, hn_9_6, hp_9_7, hn_9_7, hp_10_0, hp_10_1, hp_10_2, hn_10_2, hp_10_3, hn_10_3, hp_11_0, hp_12_0, hn_12_0, hp_12_1, hp_12_2, hp_12_3, hp_12_4, hp_12_5, hn_12_5, hp_12_6, hn_12_6, hp_12_7, hp_12_8, hp_13_0, hn_13_0, hp_13_1, hp_13_2, hp_13_3, hp_14_0, hn_14_0, hp_14_1, hp_14_2, hp_14_3, xdef_8, xdef_9, xdef_10, xdef_11, xdef_12, xdef_13, xdef_14, Gk_v, Gk_n, xcat_nil, xcat_i, xcat_r, xcat_l, xcat_d, Nat.zero_le, Nat.reduceAdd, Nat.reduceLeDiff, true_and, and_true, ykl_i, ykl_r, ykl_n, ykl_l]
        exact ho
/-- a stack from its top down, read off a table -/
def pmt (f : Nat → Int) : List Int → Nat → Prop
  | [], d => d = 0
  | v :: q, d => ∃ e, d = e + 1 ∧ (v = f e ∧ pmt f q e)
theorem pmt_congr {f f' : Nat → Int} : ∀ (l : List Int) (d : Nat), (∀ j, j < d → f' j = f j) → pmt f l d → pmt f' l d := by
  intro l
  induction l with
  | nil => intro d _ h; exact h
  | cons v q ih =>
    intro d hh h
    obtain ⟨e, h1, h2, h3⟩ := h
    exact ⟨e, h1, by rw [hh e (by omega)]; exact h2, ih e (fun j hj => hh j (by omega)) h3⟩
theorem pst_run {g : Nat → Int32} : ∀ (l : List Int32) (i : Nat) (st : List Int), (∀ j c, l[j]? = some c → g (i + j) = c ∧ (c < -2 → 2 ≤ ydep g (i + j))) → pmt (yst g x lv i) st (ydep g i) → pmt (yst g x lv (i + l.length)) (pstk x lv l st) (ydep g (i + l.length)) := by
  intro l
  induction l with
  | nil => intro i st _ h; exact h
  | cons c r ih =>
    intro i st hh h
    obtain ⟨g1, g2⟩ := hh 0 c rfl
    rw [Nat.add_zero] at g1 g2
    have hr : ∀ j c, r[j]? = some c → g (i + 1 + j) = c ∧ (c < -2 → 2 ≤ ydep g (i + 1 + j)) := by
      intro j c' hj
      have := hh (j + 1) c' (by rw [List.getElem?_cons_succ]; exact hj)
      rw [show i + (j + 1) = i + 1 + j by omega] at this
      exact this
    rw [show i + (c :: r).length = i + 1 + r.length by rw [List.length_cons]; omega]
    simp only [pstk]
    by_cases hc : -2 ≤ c
    · rw [if_pos hc]
      refine ih (i + 1) _ hr ⟨ydep g i, ?_, ?_, ?_⟩
      · show (if -2 ≤ g i then ydep g i + 1 else ydep g i - 1) = _
        rw [g1, if_pos hc]
      · simp only [yst, g1, hc, if_true]
      · refine pmt_congr st _ (fun j hj => ?_) h
        simp only [yst, g1, hc, if_true]
        rw [if_neg (by omega)]
    · rw [if_neg hc]
      have hlt : c < -2 := Int32.not_le.mp hc
      have hd := g2 hlt
      rcases st with _ | ⟨b, _ | ⟨a, q⟩⟩
      · have : ydep g i = 0 := h
        omega
      · obtain ⟨e, h1, -, h2⟩ := h
        have : e = 0 := h2
        omega
      · obtain ⟨e, h1, h2, e', h3, h4, h5⟩ := h
        refine ih (i + 1) _ hr ⟨e', ?_, ?_, ?_⟩
        · show (if -2 ≤ g i then ydep g i + 1 else ydep g i - 1) = _
          rw [g1, if_neg hc]
          omega
        · simp only [yst, g1, hc, if_false]
          rw [if_pos (by omega), h2, h4, h3]
        · refine pmt_congr q _ (fun j hj => ?_) h5
          simp only [yst, g1, hc, if_false]
          rw [if_neg (by omega)]
/-- the strip's curve -/
def pcv (σ : xS) (cv : Value) (D : yD) : Prop := (D.cn = 0 ∧ cv = .null) ∨ (1 ≤ D.cn ∧ ∃ a l, cv = .ref a ∧ (pV σ 3 a l ∧ (l.length = D.cn ∧ ∀ (j : Nat) (c : Int32), l[j]? = some c → D.cg j = c)))
theorem pcv_no {cv : Value} {D : yD} (h : pcv σ cv D) (Z : ∀ b e, σ.1 b = some e → pco e → τ.1 b = some e) : pcv τ cv D := by
  rcases h with h | ⟨h0, a, l, h1, h2, h3⟩
  · exact Or.inl h
  · exact Or.inr ⟨h0, a, l, h1, pV_no Z _ _ _ h2, h3⟩
theorem m_134 {d s : Nat} {R : pR} {D : yD} {cv : Value} {dn en : Int32} (S : pS σ s R D cv dn en) (hD : yDok D) (V : pcv σ cv D) {i l : Nat} (hi : i < 256) (hl : l < 256) : Ra (d + 4) 134 [.ref s, .int (yI i), .int (yI l)] σ (.inl (some (.int (yI (ych D.cn D.cg l i))))) σ := by
  intro Q
  have o1 := S.ob
  rcases V with ⟨h0, rfl⟩ | ⟨h0, a, it, rfl, h2, h3, h4⟩
  · have hm : yI i * yI l = yI (i * l) := yI_mul
    have hb : i * l ≤ 255 * 255 := Nat.mul_le_mul (by omega) (by omega)
    have hd : yI (i * l) / 255 = yI (i * l / 255) := yI_div (b := 255) (by omega) (by decide)
    have h255 : ¬ (255 : Int32) = 0 := by decide
    show G (d + 4) 134 0 [some (.ref s), some (.int (yI i)), some (.int (yI l))] [] σ Q ↔ _
    simp only [s_134_0, s_134_1, s_134_2n, s_134_2, s_134_3, s_134_4, s_134_5, s_134_6, s_134_8, s_134_9, s_134_10, s_134_11, s_134_12, s_134_13, s_134_14, s_134_15, s_134_16, s_134_17, s_134_20, s_134_21, s_134_7 h255, o1, hm, hd, hgf_s, hsel_0, hsel_1, hsel_2, hsel_3, hsel_4, hsel_5, hsel_6, hsel_7, hsel_8, hset_0, hset_1, hset_2, hset_3, hset_4, hset_5, hset_6, hset_7, hset_8, hpf_s, hcl_s, hai_s, hpi_0, hpi_1, hln_0, hln_1, List.length_cons, List.length_nil, xwr_1, xwr_2, xnew_1, xnew_n, xnew_s, xnew_z, Nat.reduceLT, ite_true, and_self, hp_8_0, hp_8_1, hn_8_1, hp_8_2, hn_8_2, hp_9_0, hp_9_1, hp_9_2, hp_9_3, hp_9_4, hp_9_5, hn_9_5, hp_9_6, hn_9_6, hp_9_7, hn_9_7, hp_10_0, hp_10_1, hp_10_2, hn_10_2, hp_10_3, hn_10_3, hp_11_0, hp_12_0, hn_12_0, hp_12_1, hp_12_2, hp_12_3, hp_12_4, hp_12_5, hn_12_5, hp_12_6, hn_12_6, hp_12_7, hp_12_8, hp_13_0, hn_13_0, hp_13_1, hp_13_2, hp_13_3, hp_14_0, hn_14_0, hp_14_1, hp_14_2, hp_14_3, xdef_8, xdef_9, xdef_10, xdef_11, xdef_12, xdef_13, xdef_14, Gk_v, Gk_n, xcat_nil, xcat_i, xcat_r, xcat_l, xcat_d, Nat.zero_le, Nat.reduceAdd, Nat.reduceLeDiff, true_and, and_true, ykl_i, ykl_r, ykl_n, ykl_l]
    unfold ych
    rw [if_pos h0]
  · have sx : ysm (i : Int) := ⟨by omega, by omega⟩
    have sl : ysm (l : Int) := ⟨by omega, by omega⟩
    obtain ⟨v, b1, b2, b3⟩ := m_129 (σ := σ) sx sl (d := d) 3 a it h2
    obtain ⟨ha, ka, na, ua, wa, hac, -⟩ := h2
    have ra : xRd σ a = some (.inr (10, [.int ka, .int na, ua, wa])) := by rw [yrd_lt ha, hac]
    have hv : v = yst D.cg i l D.cn 0 := by
      have hc := hD.cok.2.2
      have := pst_run (x := i) (lv := l) (g := D.cg) it 0 [] (fun j c hj => by
        have hlt : j < D.cn := by
          have := (List.getElem?_eq_some_iff.mp hj).1
          omega
        have e := h4 j c hj
        rw [Nat.zero_add]
        exact ⟨e, fun hcc => (hc j hlt).2.2 (by rw [e]; exact hcc)⟩) rfl
      rw [b2, Nat.zero_add, h3] at this
      obtain ⟨e, h5, h6, h7⟩ := this
      have h8 : e = 0 := h7
      rw [h8] at h6
      exact h6
    have e1 : (yI i).toInt64 = Int64.ofInt i := by rw [yI_i, yi_J (v := i) (by omega)]
    have e2 : (yI l).toInt64 = Int64.ofInt l := by rw [yI_i, yi_J (v := l) (by omega)]
    have hfin : (if (if Int64.ofInt v < 255 then Int64.ofInt v else 255) < 0 then 0 else (if Int64.ofInt v < 255 then Int64.ofInt v else 255)).toInt32 = yI (ych D.cn D.cg l i) := by
      have h1 : Int64.ofInt v < 255 ↔ v < 255 := yJ_lt (b := 255) (by omega) (by omega)
      have h2 : Int64.ofInt v < 0 ↔ v < 0 := yJ_lt (b := 0) (by omega) (by omega)
      unfold ych
      rw [if_neg (show ¬ D.cn = 0 by omega), ← hv]
      by_cases c1 : v < 255
      · rw [if_pos (h1.mpr c1)]
        by_cases c2 : v < 0
        · rw [if_pos (h2.mpr c2), if_pos c2]; rfl
        · rw [if_neg (fun h => c2 (h2.mp h)), if_neg c2, if_neg (by omega), Int64.toInt32_ofInt]
          have : v = ((v.toNat : Nat) : Int) := by omega
          rw [yI_i, ← this]
      · rw [if_neg (fun h => c1 (h1.mp h)), if_neg (by decide), if_neg (by omega)]
        by_cases c2 : 255 < v
        · rw [if_pos c2]; rfl
        · rw [if_neg c2]
          have : v = 255 := by omega
          rw [this]
          rfl
    have ha' : a < 1000000 ∨ (1000100 ≤ a ∧ a < 1000126) := Or.inl ha
    show G (d + 4) 134 0 [some (.ref s), some (.int (yI i)), some (.int (yI l))] [] σ Q ↔ _
    simp only [s_134_0, s_134_1, s_134_2n, s_134_2, s_134_3, s_134_4, s_134_5, s_134_6, s_134_8, s_134_9, s_134_10, s_134_11, s_134_12, s_134_13, s_134_14, s_134_15, s_134_16, s_134_17, s_134_20, s_134_21, s_134_18 pxc_l, s_134_19 xc_nil, o1, ra, ha', e1, e2, b3 _, hfin, hgf_s, hsel_0, hsel_1, hsel_2, hsel_3, hsel_4, hsel_5, hsel_6, hsel_7, hsel_8, hset_0, hset_1, hset_2, hset_3, hset_4, hset_5, hset_6, hset_7, hset_8, hpf_s, hcl_s, hai_s, hpi_0, hpi_1, hln_0, hln_1, List.length_cons, List.length_nil, xwr_1, xwr_2, xnew_1, xnew_n, xnew_s, xnew_z, Nat.reduceLT, ite_true, and_self, hp_8_0, hp_8_1, hn_8_1, hp_8_2, hn_8_2, hp_9_0, hp_9_1, hp_9_2, hp_9_3, hp_9_4, hp_9_5, hn_9_5, hp_9_6, hn_9_6, hp_9_7, hn_9_7, hp_10_0, hp_10_1, hp_10_2, hn_10_2, hp_10_3, hn_10_3, hp_11_0, hp_12_0, hn_12_0, hp_12_1, hp_12_2, hp_12_3, hp_12_4, hp_12_5, hn_12_5, hp_12_6, hn_12_6, hp_12_7, hp_12_8, hp_13_0, hn_13_0, hp_13_1, hp_13_2, hp_13_3, hp_14_0, hn_14_0, hp_14_1, hp_14_2, hp_14_3, xdef_8, xdef_9, xdef_10, xdef_11, xdef_12, xdef_13, xdef_14, Gk_v, Gk_n, xcat_nil, xcat_i, xcat_r, xcat_l, xcat_d, Nat.zero_le, Nat.reduceAdd, Nat.reduceLeDiff, true_and, and_true, ykl_i, ykl_r, ykl_n, ykl_l]
theorem m_135 {d s : Nat} {R : pR} {D : yD} {cv : Value} {dn en : Int32} (S : pS σ s R D cv dn en) (hD : yDok D) (Z : pZ σ) (V : pcv σ cv D) {a : Nat} {c : Int32} (h : pC σ a c) {l : Nat} (hl : l < 256) (hr : σ.2.1.1 < 900000) : ∃ τ, Ra (d + 5) 135 [.ref s, .ref a, .int (yI l)] σ (.inl (some (.ref σ.2.1.1))) τ ∧ (pF pno 1 3 σ τ ∧ (pC τ σ.2.1.1 (ydueC D.cn D.cg l c) ∧ pcol (ydueC D.cn D.cg l c))) := by
  have b0 := (yb8_eq c 16).2
  have b1 := (yb8_eq c 8).2
  have b2 := (yb8_eq c 0).2
  obtain ⟨v1, v2, v3, v4⟩ := pcol_of (ych_lt (n := D.cn) (g := D.cg) hl b0) (ych_lt (n := D.cn) (g := D.cg) hl b1) (ych_lt (n := D.cn) (g := D.cg) hl b2)
  obtain ⟨ha, cc, c0, c1, c2, c3⟩ := h
  have n1 : ¬ (3 : Int32) < 0 := by decide
  have n2 : (3 : Nat) ≤ 100000 := by decide
  have hr9 : σ.2.1.1 < 1000000 := by omega
  have co : ∀ (f : Nat → Int32) b e, σ.1 b = some e → pco e → (xnew σ (.inl (0, (3, .inl f))) 3).1 b = some e := fun f b e h _ => by
    have := pZ_lt Z h
    rw [xnew_1, if_neg (by omega), h]
  have Sf : ∀ f : Nat → Int32, pS (xnew σ (.inl (0, (3, .inl f))) 3) s R D cv dn en := fun f => S.no Z pF_new
  have k0 := fun f => m_134 (d := d) (Sf f) hD (pcv_no V (co f)) b0 hl
  have k1 := fun f => m_134 (d := d) (Sf f) hD (pcv_no V (co f)) b1 hl
  have k2 := fun f => m_134 (d := d) (Sf f) hD (pcv_no V (co f)) b2 hl
  have os := fun f => (Sf f).ob
  have ra : ∀ f : Nat → Int32, xRd (xnew σ (.inl (0, (3, .inl f))) 3) a = some (.inl (0, (3, .inl cc))) := fun f => prd_new Z ha (by rw [yrd_lt ha, c0])
  refine ⟨xnew σ (.inl (0, (3, .inl (upd (upd (upd (fun _ => 0) 0 (yI (ych D.cn D.cg l (yb8 c 16)))) 1 (yI (ych D.cn D.cg l (yb8 c 8)))) 2 (yI (ych D.cn D.cg l (yb8 c 0))))))) 3, fun Q => ?_, pF_new, pC_new (by omega) ?_ ?_ ?_, v1⟩
  · show G (d + 5) 135 0 [some (.ref s), some (.ref a), some (.int (yI l))] [] σ Q ↔ _
    simp only [s_135_0, s_135_1, s_135_2, s_135_2i, s_135_3, s_135_4, s_135_5, s_135_6, s_135_7, s_135_8, s_135_9, s_135_10, s_135_11, s_135_11i, s_135_12, s_135_13, s_135_14, s_135_15, s_135_16, s_135_17, s_135_18, s_135_19, s_135_20, s_135_20i, s_135_21, s_135_22, s_135_23, s_135_24, s_135_25, s_135_26, s_135_27, s_135_28, s_135_29, os, ra, k0 _ _, k1 _ _, k2 _ _, c1, c2, c3, n1, n2, ycl_3, hr, hr9, yix3_0, yix3_1, yix3_2, ycl_0, ycl_1, ycl_2, pnew_at, pwr_nw, not_false_eq_true, xc_ir, hgf_s, hsel_0, hsel_1, hsel_2, hsel_3, hsel_4, hsel_5, hsel_6, hsel_7, hsel_8, hset_0, hset_1, hset_2, hset_3, hset_4, hset_5, hset_6, hset_7, hset_8, hpf_s, hcl_s, hai_s, hpi_0, hpi_1, hln_0, hln_1, List.length_cons, List.length_nil, xwr_1, xwr_2, xnew_1, xnew_n, xnew_s, xnew_z, Nat.reduceLT, ite_true, and_self, hp_8_0, hp_8_1, hn_8_1, hp_8_2, hn_8_2, hp_9_0, hp_9_1, hp_9_2, hp_9_3, hp_9_4, hp_9_5, hn_9_5, hp_9_6, hn_9_6, hp_9_7, hn_9_7, hp_10_0, hp_10_1, hp_10_2, hn_10_2, hp_10_3, hn_10_3, hp_11_0, hp_12_0, hn_12_0, hp_12_1, hp_12_2, hp_12_3, hp_12_4, hp_12_5, hn_12_5, hp_12_6, hn_12_6, hp_12_7, hp_12_8, hp_13_0, hn_13_0, hp_13_1, hp_13_2, hp_13_3, hp_14_0, hn_14_0, hp_14_1, hp_14_2, hp_14_3, xdef_8, xdef_9, xdef_10, xdef_11, xdef_12, xdef_13, xdef_14, Gk_v, Gk_n, xcat_nil, xcat_i, xcat_r, xcat_l, xcat_d, Nat.zero_le, Nat.reduceAdd, Nat.reduceLeDiff, true_and, and_true, ykl_i, ykl_r, ykl_n, ykl_l]
  · unfold ydueC
    rw [v2]; rfl
  · unfold ydueC
    rw [v3]; rfl
  · unfold ydueC
    rw [v4]; rfl
end

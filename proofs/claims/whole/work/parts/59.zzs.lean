/-! ===== the model is made; the law begins ===== -/
section
variable {d k i pc n : Nat} {c j a m s v : Nat} {u w : Int} {aux : List Int} {ls : xL} {r : List Value} {l : List (Nat × xE)} {g : Nat → Option xE} {z : Nat × (Nat → Int32)} {Q : xR → xS → Prop}
theorem yrws_s {p n k b : Nat} : yrws p n k g b = if p ≤ b ∧ b < p + n then some (.inl (0, (k, .inl (fun _ => 0)))) else g b := rfl
theorem gx_multi {x y : Int32} {N K M1 n' : Nat} (hf : ft k i = some (pc, .multianewarray n n', aux)) (hx : (¬ x < 0) ∧ (x.toNatClampNeg = N ∧ N ≤ 100)) (hy : (¬ y < 0) ∧ (y.toNatClampNeg = K ∧ K ≤ 100000)) (hm : m + 1 = M1) : G d k i ls (.int y :: .int x :: r) (ymk l g m s z) Q ↔ m < 900000 ∧ G d k (i + 1) ls (.ref m :: r) (ymk [(m, .inl (5, (N, .inr (.inr (.inr (.inr (fun j => if j < N then some (M1 + j) else none)))))))] (yrws M1 N K (yov l g)) (m + (1 + N)) (s + (N + N * K)) z) Q := by
  obtain ⟨x1, x2, x3⟩ := hx
  obtain ⟨y1, y2, y3⟩ := hy
  subst x2 y2 hm
  rw [G_eq hf]
  show Gs d k i ls (ymk l g m s z) Q (if ¬ x < 0 ∧ ¬ y < 0 ∧ x.toNatClampNeg ≤ 100 ∧ y.toNatClampNeg ≤ 100000 ∧ m < 900000 then xgo (i + 1) ls (.ref m :: r) (xnew2 (ymk l g m s z) x.toNatClampNeg y.toNatClampNeg) else none) ↔ _
  by_cases h : m < 900000
  · rw [if_pos ⟨x1, y1, x3, y3, h⟩]
    exact ⟨fun h' => ⟨h, h'⟩, fun h' => h'.2⟩
  · rw [if_neg (fun q => h q.2.2.2.2)]
    exact ⟨fun h' => h'.elim, fun h' => absurd h'.1 h⟩
theorem yupz {i : Nat} : upd (fun _ => (0 : Int32)) i 0 = fun _ => 0 := by
  funext j
  unfold upd
  split <;> rfl
abbrev yzS (F : Nat → Int32) : xE := .inl (0, (1540, .inl F))
theorem l_128ax {x y : Int32} (ha : a < 1000000) (h : yov l g a = some (yzS (fun _ => 0))) : ∀ m' i', i' + m' = 1540 → Gg d 128 2 [some (.ref a), some (.int x), some (.int y), some (.int (yI i'))] [] (ymk l g m s z) 11 [some (.ref a), some (.int x), some (.int y), some (.int (yI 1540))] [] (ymk l g m s z) := by
  intro m'
  induction m' with
  | zero =>
    intro i' hi Q
    obtain rfl : i' = 1540 := by omega
    have c1 : (1540 : Int32) ≤ yI 1540 := by decide
    rw [s_128_2]
    simp only [s_128_0, s_128_1, s_128_3, s_128_4, s_128_5, s_128_6, s_128_7, s_128_8, s_128_9, s_128_10, s_128_12, s_128_13, s_128_14, s_128_15, s_128_16, s_128_17, s_128_18, s_128_19, s_128_20, s_128_21, s_128_22, s_128_23, s_128_24, s_128_25, s_128_26, s_128_27, s_128_28, s_128_29, s_128_30, s_128_31, s_128_32, s_128_33, s_128_34, s_128_35, s_128_36, s_128_37, s_128_38, s_128_39, s_128_40, s_128_41, s_128_42, s_128_43, s_128_44, s_128_45, c1, if_true, Gk_v, Gk_n, xcat_nil, xcat_i, xcat_r, xcat_l, xcat_d, Nat.zero_le, Nat.reduceAdd, Nat.reduceLeDiff, true_and, and_true, ykl_i, ykl_r, ykl_n, ykl_l]
  | succ m' ih =>
    intro i' hi Q
    have c1 : ¬ (1540 : Int32) ≤ yI i' := fun h => absurd ((yI_le (n := 1540) (by decide) (by omega)).mp h) (by omega)
    have j1 : yix (yI i') 1540 := yix_I (by omega) (by omega)
    have c2 : (yI i').toNatClampNeg = i' := yI_clamp (by omega)
    have h7 : yI i' + 1 = yI (i' + 1) := yI_add
    rw [s_128_2]
    simp only [s_128_0, s_128_1, s_128_3, s_128_4, s_128_5, s_128_6, s_128_7, s_128_8, s_128_9, s_128_10, s_128_12, s_128_13, s_128_14, s_128_15, s_128_16, s_128_17, s_128_18, s_128_19, s_128_20, s_128_21, s_128_22, s_128_23, s_128_24, s_128_25, s_128_26, s_128_27, s_128_28, s_128_29, s_128_30, s_128_31, s_128_32, s_128_33, s_128_34, s_128_35, s_128_36, s_128_37, s_128_38, s_128_39, s_128_40, s_128_41, s_128_42, s_128_43, s_128_44, s_128_45, gx_iast f_128_8, c1, if_false, ha, h, yarr_ok, j1, c2, h7, yupz, ymk_same h, true_and, Gk_v, Gk_n, xcat_nil, xcat_i, xcat_r, xcat_l, xcat_d, Nat.zero_le, Nat.reduceAdd, Nat.reduceLeDiff, true_and, and_true, ykl_i, ykl_r, ykl_n, ykl_l]
    exact ih (i' + 1) (by omega) Q
theorem l_128bx {x y : Int32} (ha : a < 1000000) : ∀ m' p (F : Nat → Int32), p + m' = 40 → Ga (d + 1) 128 33 [some (.ref a), some (.int x), some (.int y), some (.int (yI p))] [] (ymk ((a, yzS F) :: l) g m s z) (.inl none) (ymk ((a, yzS (ylo m' p F)) :: l) g m s z) := by
  intro m'
  induction m' with
  | zero =>
    intro p F hp Q
    obtain rfl : p = 40 := by omega
    have c1 : (40 : Int32) ≤ yI 40 := by decide
    show _ ↔ Q (.inl none) (ymk ((a, yzS F) :: l) g m s z)
    rw [s_128_33]
    simp only [s_128_0, s_128_1, s_128_3, s_128_4, s_128_5, s_128_6, s_128_7, s_128_8, s_128_9, s_128_10, s_128_12, s_128_13, s_128_14, s_128_15, s_128_16, s_128_17, s_128_18, s_128_19, s_128_20, s_128_21, s_128_22, s_128_23, s_128_24, s_128_25, s_128_26, s_128_27, s_128_28, s_128_29, s_128_30, s_128_31, s_128_32, s_128_34, s_128_35, s_128_36, s_128_37, s_128_38, s_128_39, s_128_40, s_128_41, s_128_42, s_128_43, s_128_44, s_128_45, c1, if_true, Gk_v, Gk_n, xcat_nil, xcat_i, xcat_r, xcat_l, xcat_d, Nat.zero_le, Nat.reduceAdd, Nat.reduceLeDiff, true_and, and_true, ykl_i, ykl_r, ykl_n, ykl_l]
  | succ m' ih =>
    intro p F hp Q
    have c1 : ¬ (40 : Int32) ≤ yI p := fun h => absurd ((yI_le (n := 40) (by decide) (by omega)).mp h) (by omega)
    have e1 : yI (8 + 8 * p) + 6 = yI (8 + 8 * p + 6) := yI_add
    have j1 : yix (yI (8 + 8 * p + 6)) 1540 := yix_I (by omega) (by omega)
    have c2 : (yI (8 + 8 * p + 6)).toNatClampNeg = 8 + 8 * p + 6 := yI_clamp (by omega)
    have h7 : yI p + 1 = yI (p + 1) := yI_add
    have ha' : yov ((a, yzS F) :: l) g a = some (yzS F) := by rw [yov_s, if_pos rfl]
    rw [s_128_33]
    simp only [s_128_0, s_128_1, s_128_3, s_128_4, s_128_5, s_128_6, s_128_7, s_128_8, s_128_9, s_128_10, s_128_12, s_128_13, s_128_14, s_128_15, s_128_16, s_128_17, s_128_18, s_128_19, s_128_20, s_128_21, s_128_22, s_128_23, s_128_24, s_128_25, s_128_26, s_128_27, s_128_28, s_128_29, s_128_30, s_128_31, s_128_32, s_128_34, s_128_35, s_128_36, s_128_37, s_128_38, s_128_39, s_128_40, s_128_41, s_128_42, s_128_43, s_128_44, s_128_45, gx_iast f_128_42, c1, if_false, m_160, e1, ha, ha', yarr_ok, j1, c2, h7, ymk_sh, true_and, Gk_v, Gk_n, xcat_nil, xcat_i, xcat_r, xcat_l, xcat_d, Nat.zero_le, Nat.reduceAdd, Nat.reduceLeDiff, true_and, and_true, ykl_i, ykl_r, ykl_n, ykl_l]
    exact ih (p + 1) _ (by omega) Q
theorem m_128x {x y : Int32} (ha : a < 1000000) (h : yov l g a = some (.inl (0, (1540, .inl (fun _ => 0))))) : Ra (d + 1) 128 [.ref a, .int x, .int y] (ymk l g m s z) (.inl none) (ymk ((a, yzS (ylay (fun _ => 0) x y)) :: l) g m s z) := by
  intro Q
  have ga := l_128ax (d := d + 1) (m := m) (s := s) (z := z) ha h (x := x) (y := y) 1540 0 (Nat.zero_add _) Q
  have i0 : yix 0 1540 := yix_I (n := 0) (by omega) (by omega)
  have i1 : yix 1 1540 := yix_I (n := 1) (by omega) (by omega)
  have i2 : yix 2 1540 := yix_I (n := 2) (by omega) (by omega)
  have i3 : yix 3 1540 := yix_I (n := 3) (by omega) (by omega)
  have i9 : yix 329 1540 := yix_I (n := 329) (by omega) (by omega)
  have c0 : (0 : Int32).toNatClampNeg = 0 := rfl
  have c1 : (1 : Int32).toNatClampNeg = 1 := rfl
  have c2 : (2 : Int32).toNatClampNeg = 2 := rfl
  have c3 : (3 : Int32).toNatClampNeg = 3 := rfl
  have c9 : (329 : Int32).toNatClampNeg = 329 := rfl
  have gb := l_128bx (d := d) (l := l) (g := g) (m := m) (s := s) (z := z) ha (x := x) (y := y) 40 0 (upd (upd (upd (upd (upd (fun _ => 0) 0 x) 1 y) 2 255) 3 1) 329 9999) (Nat.zero_add _) Q
  have e : ylo 40 0 (upd (upd (upd (upd (upd (fun _ => 0) 0 x) 1 y) 2 255) 3 1) 329 9999) = ylay (fun _ => 0) x y := by
    unfold ylay ylay0
    simp only [ite_self]
  rw [e] at gb
  show G (d + 1) 128 0 [some (.ref a), some (.int x), some (.int y), none] [] (ymk l g m s z) Q ↔ _
  have start : G (d + 1) 128 0 [some (.ref a), some (.int x), some (.int y), none] [] (ymk l g m s z) Q ↔ G (d + 1) 128 2 [some (.ref a), some (.int x), some (.int y), some (.int (yI 0))] [] (ymk l g m s z) Q := by
    simp only [s_128_0, s_128_1, Gk_v, Gk_n, xcat_nil, xcat_i, xcat_r, xcat_l, xcat_d, Nat.zero_le, Nat.reduceAdd, Nat.reduceLeDiff, true_and, and_true, ykl_i, ykl_r, ykl_n, ykl_l]
    exact Iff.rfl
  refine start.trans (ga.trans ?_)
  have hs : ∀ (F : Nat → Int32), yov ((a, .inl (0, (1540, .inl F))) :: l) g a = some (.inl (0, (1540, .inl F))) := fun F => by rw [yov_s, if_pos rfl]
  rw [s_128_11]
  simp only [s_128_0, s_128_1, s_128_3, s_128_4, s_128_5, s_128_6, s_128_7, s_128_8, s_128_9, s_128_10, s_128_12, s_128_13, s_128_14, s_128_15, s_128_16, s_128_17, s_128_18, s_128_19, s_128_20, s_128_21, s_128_22, s_128_23, s_128_24, s_128_25, s_128_26, s_128_27, s_128_28, s_128_29, s_128_30, s_128_31, s_128_32, s_128_34, s_128_35, s_128_36, s_128_37, s_128_38, s_128_39, s_128_40, s_128_41, s_128_42, s_128_43, s_128_44, s_128_45, gx_iast f_128_14, gx_iast f_128_18, gx_iast f_128_22, gx_iast f_128_26, gx_iast f_128_30, ha, h, hs, yarr_ok, ymk_sh, i0, i1, i2, i3, i9, c0, c1, c2, c3, c9, true_and, Gk_v, Gk_n, xcat_nil, xcat_i, xcat_r, xcat_l, xcat_d, Nat.zero_le, Nat.reduceAdd, Nat.reduceLeDiff, true_and, and_true, ykl_i, ykl_r, ykl_n, ykl_l]
  exact gb
theorem yn8m : (¬ (8 : Int32) < 0) ∧ ((8 : Int32).toNatClampNeg = 8 ∧ 8 ≤ 100) := ⟨by decide, rfl, by decide⟩
theorem yn2m : (¬ (2 : Int32) < 0) ∧ ((2 : Int32).toNatClampNeg = 2 ∧ 2 ≤ 100) := ⟨by decide, rfl, by decide⟩
theorem m_122x : Ra (d + 3) 122 [.ref 160] (ymk ((160, .inr (8, xdef 8)) :: l) g 161 s z) (.inl none) (ymk [] (yfil 160 183 (yov l g)) 183 (s + 21449) z) := by
  intro Q
  show G (d + 3) 122 0 [some (.ref 160)] [] _ Q ↔ _
  simp only [s_122_0, gx_obj f_122_1, s_122_2, s_122_3, gx_narr (t := 0) (N := 600) (x := 600) f_122_4 yn600 yzI, gx_putR (c := 8) (j := 1) f_122_5 rfl rfl, s_122_6, s_122_7, gx_putI (c := 8) (j := 7) f_122_8 rfl rfl, s_122_9, s_122_10, gx_narr (t := 0) (N := 1540) (x := 1540) f_122_11 yn1540' yzI, gx_putR (c := 8) (j := 9) f_122_12 rfl rfl, s_122_13, s_122_14, gx_narr (t := 0) (N := 1540) (x := 1540) f_122_15 yn1540' yzI, gx_putR (c := 8) (j := 10) f_122_16 rfl rfl, s_122_17, s_122_18, gx_narr (t := 0) (N := 340) (x := 340) f_122_19 yn340' yzI, gx_putR (c := 8) (j := 11) f_122_20 rfl rfl, s_122_21, s_122_22, gx_narr (t := 0) (N := 340) (x := 340) f_122_23 yn340' yzI, gx_putR (c := 8) (j := 12) f_122_24 rfl rfl, s_122_25, s_122_26, s_122_27, gx_putR (c := 8) (j := 13) f_122_29 rfl rfl, s_122_30, s_122_31, s_122_32, gx_putR (c := 8) (j := 14) f_122_34 rfl rfl, s_122_35, s_122_36, gx_narr (t := 2) (N := 2) (x := 2) f_122_37 yn2' yzZ, gx_putR (c := 8) (j := 15) f_122_38 rfl rfl, s_122_39, s_122_40, gx_narr (t := 0) (N := 427) (x := 427) f_122_41 yn427' yzI, gx_putR (c := 8) (j := 22) f_122_42 rfl rfl, s_122_43, s_122_44, gx_narr (t := 3) (N := 1200) (x := 1200) f_122_45 yn1200' yzL, gx_putR (c := 8) (j := 25) f_122_46 rfl rfl, s_122_47, s_122_48, gx_narr (t := 0) (N := 40) (x := 40) f_122_49 yn40' yzI, gx_putR (c := 8) (j := 26) f_122_50 rfl rfl, s_122_51, s_122_52, gx_narr (t := 0) (N := 10) (x := 10) f_122_53 yn10' yzI, gx_putR (c := 8) (j := 27) f_122_54 rfl rfl, s_122_55, gx_getn (c := 8) (j := 9) f_122_56, s_122_57, s_122_58, s_122_59, s_122_60, gx_multi (x := 8) (y := 1540) (N := 8) (K := 1540) (M1 := 167) f_122_28 yn8m yn1540', gx_multi (x := 2) (y := 1540) (N := 2) (K := 1540) (M1 := 176) f_122_33 yn2m yn1540', m_128x, yrws_s, Nat.reduceMul, false_and, and_false, yov_s, yov_n, yget_s, yopt_ok, yput_ok, yarr_ok, ycls_ok, List.length_cons, List.length_nil, List.set_cons_zero, List.set_cons_succ, List.getElem?_cons_zero, List.getElem?_cons_succ, xdef_8, xnf_0, xnf_1, xnf_2, xnf_3, xnf_4, xnf_5, xnf_6, xnf_7, xnf_8, Nat.reduceAdd, Nat.reduceLT, Nat.reduceEqDiff, reduceIte, if_true, if_false, true_and, and_true, ycl0, yi06, yup00, ite_self, Nat.add_assoc, ygi_t, Gk_v, Gk_n, xcat_nil, xcat_i, xcat_r, xcat_l, xcat_d, Nat.zero_le, Nat.reduceAdd, Nat.reduceLeDiff, true_and, and_true, ykl_i, ykl_r, ykl_n, ykl_l]
  refine Eq.to_iff (congrArg (Q (.inl none)) ?_)
  refine ymk_fil2 (p := 160) (q := 183) (h := yov l g) (fun b h1 h2 => ?_) (fun b hb => ?_)
  · rcases (by omega : b = 160 ∨ b = 161 ∨ b = 162 ∨ b = 163 ∨ b = 164 ∨ b = 165 ∨ b = 166 ∨ b = 167 ∨ b = 168 ∨ b = 169 ∨ b = 170 ∨ b = 171 ∨ b = 172 ∨ b = 173 ∨ b = 174 ∨ b = 175 ∨ b = 176 ∨ b = 177 ∨ b = 178 ∨ b = 179 ∨ b = 180 ∨ b = 181 ∨ b = 182) with rfl | rfl | rfl | rfl | rfl | rfl | rfl | rfl | rfl | rfl | rfl | rfl | rfl | rfl | rfl | rfl | rfl | rfl | rfl | rfl | rfl | rfl | rfl
    all_goals rfl
  · have n160 : ¬ b = 160 := by omega
    have n161 : ¬ b = 161 := by omega
    have n162 : ¬ b = 162 := by omega
    have n163 : ¬ b = 163 := by omega
    have n164 : ¬ b = 164 := by omega
    have n165 : ¬ b = 165 := by omega
    have n166 : ¬ b = 166 := by omega
    have n167 : ¬ b = 167 := by omega
    have n168 : ¬ b = 168 := by omega
    have n169 : ¬ b = 169 := by omega
    have n170 : ¬ b = 170 := by omega
    have n171 : ¬ b = 171 := by omega
    have n172 : ¬ b = 172 := by omega
    have n173 : ¬ b = 173 := by omega
    have n174 : ¬ b = 174 := by omega
    have n175 : ¬ b = 175 := by omega
    have n176 : ¬ b = 176 := by omega
    have n177 : ¬ b = 177 := by omega
    have n178 : ¬ b = 178 := by omega
    have n179 : ¬ b = 179 := by omega
    have n180 : ¬ b = 180 := by omega
    have n181 : ¬ b = 181 := by omega
    have n182 : ¬ b = 182 := by omega
    have k1 : ¬ (167 ≤ b ∧ b < 175) := by omega
    have k2 : ¬ (176 ≤ b ∧ b < 178) := by omega
    simp only [yov_s, yov_n, yrws_s, n160, n161, n162, n163, n164, n165, n166, n167, n168, n169, n170, n171, n172, n173, n174, n175, n176, n177, n178, n179, n180, n181, n182, k1, k2, if_false, Nat.reduceAdd]
end

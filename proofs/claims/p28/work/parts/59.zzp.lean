/-! ===== the class's objects are made ===== -/
theorem xnf_0 : xnf 0 = 4 := rfl
theorem xnf_1 : xnf 1 = 3 := rfl
theorem xnf_2 : xnf 2 = 9 := rfl
theorem xnf_3 : xnf 3 = 7 := rfl
theorem xnf_4 : xnf 4 = 18 := rfl
theorem xnf_5 : xnf 5 = 3 := rfl
theorem xnf_6 : xnf 6 = 10 := rfl
theorem xnf_7 : xnf 7 = 13 := rfl
theorem xnf_8 : xnf 8 = 28 := rfl
theorem yi06 : yix 0 6 := yix_I (n := 0) (by omega) (by omega)
theorem yup00 : upd (fun _ => (0 : Int32)) 0 0 = fun _ => 0 := by
  funext j
  unfold upd
  split <;> rfl
section
variable {d k i pc n : Nat} {c j a m s : Nat} {u w : Int} {ls : xL} {r : List Value} {l : List (Nat × xE)} {g : Nat → Option xE} {z : Nat × (Nat → Int32)} {Q : xR → xS → Prop}
theorem gx_putR {x : Nat} (hf : ft k i = some (pc, .putfield n, [(c : Int), (j : Int), u, w])) (hn : narrow (xtyf c j) (.ref x) = .ref x) (hi : fits (xtyf c j) (.ref x) = true) : G d k i ls (.ref x :: .ref a :: r) (ymk l g m s z) Q ↔ a < 1000000 ∧ yputC (yov l g a) c j (fun fs => G d k (i + 1) ls r (ymk ((a, .inr (c, fs.set j (.ref x))) :: l) g m s z) Q) := gx_put hf hn hi
theorem gx_putI {x : Int32} (hf : ft k i = some (pc, .putfield n, [(c : Int), (j : Int), u, w])) (hn : narrow (xtyf c j) (.int x) = .int x) (hi : fits (xtyf c j) (.int x) = true) : G d k i ls (.int x :: .ref a :: r) (ymk l g m s z) Q ↔ a < 1000000 ∧ yputC (yov l g a) c j (fun fs => G d k (i + 1) ls r (ymk ((a, .inr (c, fs.set j (.int x))) :: l) g m s z) Q) := gx_put hf hn hi
theorem gx_putL {x : Int64} (hf : ft k i = some (pc, .putfield n, [(c : Int), (j : Int), u, w])) (hn : narrow (xtyf c j) (.long x) = .long x) (hi : fits (xtyf c j) (.long x) = true) : G d k i ls (.long x :: .ref a :: r) (ymk l g m s z) Q ↔ a < 1000000 ∧ yputC (yov l g a) c j (fun fs => G d k (i + 1) ls r (ymk ((a, .inr (c, fs.set j (.long x))) :: l) g m s z) Q) := gx_put hf hn hi
theorem gx_getn (hf : ft k i = some (pc, .getfield n, [(c : Int), (j : Int), u, w])) (ha : a < 1000000) : G d k i ls (.ref a :: r) (ymk l g m s z) Q ↔ ygetC (yov l g a) c j (fun v => G d k (i + 1) ls (v :: r) (ymk l g m s z) Q) := by
  rw [gx_get hf, if_pos ha]
theorem ygi_t : True := trivial
def yoptC (o : Option Value) (K : Value → Prop) : Prop := match o with
  | some v => K v
  | none => False
theorem yopt_ok {v : Value} {K : Value → Prop} : yoptC (some v) K ↔ K v := Iff.rfl
theorem yget_s {fs : List Value} {K : Value → Prop} : ygetC (some (.inr (c, fs))) c j K ↔ yoptC fs[j]? K := by
  unfold ygetC yoptC
  simp only [if_true]
  cases fs[j]? <;> exact Iff.rfl
theorem yfil_s {p q b : Nat} : yfil p q g b = if p ≤ b ∧ b < q then yc0 b else g b := rfl
theorem ymk_fil2 {L : List (Nat × xE)} {H h : Nat → Option xE} {p q : Nat} (h1 : ∀ b, p ≤ b → b < q → yov L H b = yc0 b) (h2 : ∀ b, ¬ (p ≤ b ∧ b < q) → yov L H b = h b) : ymk L H m s z = ymk [] (yfil p q h) m s z := by
  unfold ymk
  congr 1
  funext b
  show _ = (if p ≤ b ∧ b < q then yc0 b else h b)
  by_cases hb : p ≤ b ∧ b < q
  · rw [if_pos hb]
    exact h1 b hb.1 hb.2
  · rw [if_neg hb]
    exact h2 b hb
theorem cl30 {σ : xS} {x y : Int32} : Cl d 30 [.ref a, .int x, .int y] σ Q ↔ G d 30 0 [some (.ref a), some (.int x), some (.int y)] [] σ Q := Iff.rfl
theorem ymk_sh {e e' : xE} : ymk ((a, e) :: (a, e') :: l) g m s z = ymk ((a, e) :: l) g m s z := by
  unfold ymk
  congr 1
  funext b
  simp only [yov_s]
  split <;> rfl
theorem ymk_same {e : xE} (h : yov l g a = some e) : ymk ((a, e) :: l) g m s z = ymk l g m s z := by
  unfold ymk
  congr 1
  funext b
  rw [yov_s]
  by_cases hb : b = a
  · rw [if_pos hb, hb, h]
  · rw [if_neg hb]
theorem gx_len {N : Nat} {e : _} {aux' : List Int} (hf : ft k i = some (pc, .arraylength, aux')) (ha : a < 1000000) (h : yov l g a = some (.inl (0, (N, e)))) : G d k i ls (.ref a :: r) (ymk l g m s z) Q ↔ G d k (i + 1) ls (.int (Int32.ofNat N) :: r) (ymk l g m s z) Q := by
  refine gs_go hf ?_
  show (match xRd (ymk l g m s z) a with
      | some (.inl (t', (n, _))) => if t' = 0 ∨ (t' = 1 ∧ 1000000 ≤ a) then xgo (i + 1) ls (.int (Int32.ofNat n) :: r) (ymk l g m s z) else none
      | _ => none) = _
  rw [yrd_lt ha, show (ymk l g m s z).1 a = yov l g a from rfl, h]
  rfl
abbrev yz40 (i : Nat) (v : Int32) : xE := .inl (0, (40, .inl (fun j => if j < i then v else 0)))
theorem l_223z {v : Int32} (ha : a < 1000000) : ∀ m' i', i' + m' = 40 → Ga d 223 5 [some (.ref a), some (.int v), some (.int (yI i')), some (.int (yI 40))] [] (ymk ((a, yz40 i' v) :: l) g m s z) (.inl none) (ymk ((a, yz40 40 v) :: l) g m s z) := by
  intro m'
  induction m' with
  | zero =>
    intro i' hi Q
    obtain rfl : i' = 40 := by omega
    have c : yI 40 ≤ yI 40 := by decide
    rw [s_223_5]
    simp only [s_223_0, s_223_1, s_223_2, s_223_4, s_223_6, s_223_7, s_223_8, s_223_9, s_223_10, s_223_12, s_223_13, s_223_14, c, if_true]
  | succ m' ih =>
    intro i' hi Q
    have c : ¬ yI 40 ≤ yI i' := fun h => absurd ((yI_le (by omega) (by omega)).mp h) (by omega)
    have c1 : (yI i').toNatClampNeg = i' := yI_clamp (by omega)
    have e1 : yI i' + 1 = yI (i' + 1) := yI_add
    have j1 : yix (yI i') 40 := yix_I (by omega) (by omega)
    have eu : upd (fun j => if j < i' then v else (0 : Int32)) i' v = fun j => if j < i' + 1 then v else 0 := by
      funext j
      by_cases h : j = i'
      · rw [h, yupd_same, if_pos (by omega)]
      · rw [yupd_ne h]
        by_cases h' : j < i'
        · rw [if_pos h', if_pos (by omega)]
        · rw [if_neg h', if_neg (by omega)]
    have ha' : yov ((a, yz40 i' v) :: l) g a = some (yz40 i' v) := by rw [yov_s, if_pos rfl]
    rw [s_223_5]
    simp only [s_223_0, s_223_1, s_223_2, s_223_4, s_223_6, s_223_7, s_223_8, s_223_9, s_223_10, s_223_12, s_223_13, s_223_14, gx_iast f_223_11, c, if_false, ha, ha', yarr_ok, j1, c1, e1, eu, ymk_sh, true_and, Gk_v, Gk_n, xcat_nil, xcat_i, xcat_r, xcat_l, xcat_d, Nat.zero_le, Nat.reduceAdd, Nat.reduceLeDiff, true_and, and_true, ykl_i, ykl_r, ykl_n, ykl_l]
    exact ih (i' + 1) (by omega) Q
theorem m_223z {v : Int32} (ha : a < 1000000) (h : yov l g a = some (.inl (0, (40, .inl (fun _ => 0))))) : Ra d 223 [.ref a, .int v] (ymk l g m s z) (.inl none) (ymk ((a, yz40 40 v) :: l) g m s z) := by
  intro Q
  have e0 : (fun j => if j < 0 then v else (0 : Int32)) = fun _ => 0 := by
    funext j
    exact if_neg (Nat.not_lt_zero j)
  have hs : ymk ((a, yz40 0 v) :: l) g m s z = ymk l g m s z := ymk_same (by rw [h]; show _ = some (Sum.inl (0, (40, Sum.inl (fun j => if j < 0 then v else (0 : Int32))))); rw [e0])
  have H := l_223z (d := d) (l := l) (g := g) (m := m) (s := s) (z := z) (v := v) ha 40 0 rfl Q
  rw [hs] at H
  refine Iff.trans ?_ H
  have gl := gx_len (d := d) (k := 223) (i := 3) (ls := [some (.ref a), some (.int v), some (.int 0), none]) (r := []) (m := m) (s := s) (z := z) (Q := Q) f_223_3 ha h
  show G d 223 0 [some (.ref a), some (.int v), none, none] [] (ymk l g m s z) Q ↔ _
  simp only [s_223_0, s_223_1, s_223_2, s_223_4, s_223_6, s_223_7, s_223_8, s_223_9, s_223_10, s_223_12, s_223_13, s_223_14, gl, Gk_v, Gk_n, xcat_nil, xcat_i, xcat_r, xcat_l, xcat_d, Nat.zero_le, Nat.reduceAdd, Nat.reduceLeDiff, true_and, and_true, ykl_i, ykl_r, ykl_n, ykl_l]
  exact Iff.rfl
end
section
variable {d m s : Nat} {l : List (Nat × xE)} {g : Nat → Option xE} {z : Nat × (Nat → Int32)}
theorem m_73x : Ra (d + 1) 73 [.ref 1] (ymk ((1, .inr (6, xdef 6)) :: l) g 2 s z) (.inl none) (ymk [] (yfil 1 3 (yov l g)) 3 (s + 600) z) := by
  intro Q
  show G (d + 1) 73 0 [some (.ref 1)] [] _ Q ↔ _
  simp only [s_73_0, gx_obj f_73_1, s_73_2, s_73_3, gx_narr (t := 1) (N := 600) (x := 600) f_73_4 yn600 yzB, gx_putR (c := 6) (j := 0) f_73_5 rfl rfl, s_73_6, s_73_7, gx_putI (c := 6) (j := 1) f_73_8 rfl rfl, s_73_9, s_73_10, gx_putI (c := 6) (j := 2) f_73_11 rfl rfl, s_73_12, s_73_13, gx_putI (c := 6) (j := 3) f_73_14 rfl rfl, s_73_15, s_73_16, gx_putI (c := 6) (j := 4) f_73_17 rfl rfl, s_73_18, s_73_19, gx_putI (c := 6) (j := 5) f_73_20 rfl rfl, s_73_21, s_73_22, gx_putI (c := 6) (j := 6) f_73_23 rfl rfl, s_73_24, s_73_25, gx_putI (c := 6) (j := 7) f_73_26 rfl rfl, s_73_27, s_73_28, gx_putI (c := 6) (j := 8) f_73_29 rfl rfl, s_73_30, s_73_31, gx_putI (c := 6) (j := 9) f_73_32 rfl rfl, s_73_33, yov_s, yov_n, yget_s, yopt_ok, yput_ok, yarr_ok, ycls_ok, List.length_cons, List.length_nil, List.set_cons_zero, List.set_cons_succ, List.getElem?_cons_zero, List.getElem?_cons_succ, xdef_0, xdef_1, xdef_2, xdef_3, xdef_4, xdef_5, xdef_6, xdef_7, xdef_8, xnf_0, xnf_1, xnf_2, xnf_3, xnf_4, xnf_5, xnf_6, xnf_7, xnf_8, Nat.reduceAdd, Nat.reduceLT, Nat.reduceEqDiff, reduceIte, if_true, if_false, true_and, and_true, ycl0, yi06, yup00, ite_self, Nat.add_assoc, ygi_t, Gk_v, Gk_n, xcat_nil, xcat_i, xcat_r, xcat_l, xcat_d, Nat.zero_le, Nat.reduceAdd, Nat.reduceLeDiff, true_and, and_true, ykl_i, ykl_r, ykl_n, ykl_l]
  refine Eq.to_iff (congrArg (Q (.inl none)) ?_)
  refine ymk_fil (p := 1) (q := 3) (l' := l) (fun b h1 h2 => ?_) (fun b h => ?_)
  · rcases (by omega : b = 1 ∨ b = 2) with rfl | rfl
    all_goals rfl
  · have hb : ∀ a, 1 ≤ a → a < 3 → ¬ b = a := fun a h1 h2 h3 => h ⟨by omega, by omega⟩
    simp only [yov_s, hb 1 (by decide) (by decide), hb 2 (by decide) (by decide), if_false]
theorem m_0x : Ra (d + 1) 0 [.ref 3] (ymk ((3, .inr (0, xdef 0)) :: l) g 4 s z) (.inl none) (ymk [] (yfil 3 7 (yov l g)) 7 (s + 272) z) := by
  intro Q
  show G (d + 1) 0 0 [some (.ref 3)] [] _ Q ↔ _
  simp only [s_0_0, gx_obj f_0_1, s_0_2, s_0_3, gx_narr (t := 0) (N := 256) (x := 256) f_0_4 yn256 yzI, gx_putR (c := 0) (j := 0) f_0_5 rfl rfl, s_0_6, s_0_7, gx_narr (t := 0) (N := 16) (x := 16) f_0_8 yn16 yzI, gx_putR (c := 0) (j := 1) f_0_9 rfl rfl, s_0_10, s_0_11, gx_narr (t := 0) (N := 0) (x := 0) f_0_12 yn0' yzI, gx_putR (c := 0) (j := 2) f_0_13 rfl rfl, s_0_14, s_0_15, gx_putI (c := 0) (j := 3) f_0_16 rfl rfl, s_0_17, yov_s, yov_n, yget_s, yopt_ok, yput_ok, yarr_ok, ycls_ok, List.length_cons, List.length_nil, List.set_cons_zero, List.set_cons_succ, List.getElem?_cons_zero, List.getElem?_cons_succ, xdef_0, xdef_1, xdef_2, xdef_3, xdef_4, xdef_5, xdef_6, xdef_7, xdef_8, xnf_0, xnf_1, xnf_2, xnf_3, xnf_4, xnf_5, xnf_6, xnf_7, xnf_8, Nat.reduceAdd, Nat.reduceLT, Nat.reduceEqDiff, reduceIte, if_true, if_false, true_and, and_true, ycl0, yi06, yup00, ite_self, Nat.add_assoc, ygi_t, Gk_v, Gk_n, xcat_nil, xcat_i, xcat_r, xcat_l, xcat_d, Nat.zero_le, Nat.reduceAdd, Nat.reduceLeDiff, true_and, and_true, ykl_i, ykl_r, ykl_n, ykl_l]
  refine Eq.to_iff (congrArg (Q (.inl none)) ?_)
  refine ymk_fil (p := 3) (q := 7) (l' := l) (fun b h1 h2 => ?_) (fun b h => ?_)
  · rcases (by omega : b = 3 ∨ b = 4 ∨ b = 5 ∨ b = 6) with rfl | rfl | rfl | rfl
    all_goals rfl
  · have hb : ∀ a, 3 ≤ a → a < 7 → ¬ b = a := fun a h1 h2 h3 => h ⟨by omega, by omega⟩
    simp only [yov_s, hb 3 (by decide) (by decide), hb 4 (by decide) (by decide), hb 5 (by decide) (by decide), hb 6 (by decide) (by decide), if_false]
theorem m_65x : Ra (d + 1) 65 [.ref 32, .ref 1] (ymk ((32, .inr (5, xdef 5)) :: l) g 33 s z) (.inl none) (ymk [] (yfil 32 34 (yov l g)) 34 (s + 600) z) := by
  intro Q
  show G (d + 1) 65 0 [some (.ref 32), some (.ref 1)] [] _ Q ↔ _
  simp only [s_65_0, gx_obj f_65_1, s_65_2, s_65_3, gx_narr (t := 0) (N := 600) (x := 600) f_65_4 yn600 yzI, gx_putR (c := 5) (j := 1) f_65_5 rfl rfl, s_65_6, s_65_7, gx_putI (c := 5) (j := 2) f_65_8 rfl rfl, s_65_9, s_65_10, gx_putR (c := 5) (j := 0) f_65_11 rfl rfl, s_65_12, yov_s, yov_n, yget_s, yopt_ok, yput_ok, yarr_ok, ycls_ok, List.length_cons, List.length_nil, List.set_cons_zero, List.set_cons_succ, List.getElem?_cons_zero, List.getElem?_cons_succ, xdef_0, xdef_1, xdef_2, xdef_3, xdef_4, xdef_5, xdef_6, xdef_7, xdef_8, xnf_0, xnf_1, xnf_2, xnf_3, xnf_4, xnf_5, xnf_6, xnf_7, xnf_8, Nat.reduceAdd, Nat.reduceLT, Nat.reduceEqDiff, reduceIte, if_true, if_false, true_and, and_true, ycl0, yi06, yup00, ite_self, Nat.add_assoc, ygi_t, Gk_v, Gk_n, xcat_nil, xcat_i, xcat_r, xcat_l, xcat_d, Nat.zero_le, Nat.reduceAdd, Nat.reduceLeDiff, true_and, and_true, ykl_i, ykl_r, ykl_n, ykl_l]
  refine Eq.to_iff (congrArg (Q (.inl none)) ?_)
  refine ymk_fil (p := 32) (q := 34) (l' := l) (fun b h1 h2 => ?_) (fun b h => ?_)
  · rcases (by omega : b = 32 ∨ b = 33) with rfl | rfl
    all_goals rfl
  · have hb : ∀ a, 32 ≤ a → a < 34 → ¬ b = a := fun a h1 h2 h3 => h ⟨by omega, by omega⟩
    simp only [yov_s, hb 32 (by decide) (by decide), hb 33 (by decide) (by decide), if_false]
theorem m_8x : Ra (d + 1) 8 [.ref 34, .ref 1, .ref 7, .ref 3] (ymk ((34, .inr (2, xdef 2)) :: l) g 35 s z) (.inl none) (ymk [] (yfil 34 38 (yov l g)) 38 (s + 420) z) := by
  intro Q
  show G (d + 1) 8 0 [some (.ref 34), some (.ref 1), some (.ref 7), some (.ref 3)] [] _ Q ↔ _
  simp only [s_8_0, gx_obj f_8_1, s_8_2, s_8_3, gx_narr (t := 0) (N := 60) (x := 60) f_8_4 yn60' yzI, gx_putR (c := 2) (j := 3) f_8_5 rfl rfl, s_8_6, s_8_7, gx_narr (t := 0) (N := 300) (x := 300) f_8_8 yn300' yzI, gx_putR (c := 2) (j := 4) f_8_9 rfl rfl, s_8_10, s_8_11, gx_narr (t := 0) (N := 60) (x := 60) f_8_12 yn60' yzI, gx_putR (c := 2) (j := 5) f_8_13 rfl rfl, s_8_14, s_8_15, gx_putI (c := 2) (j := 6) f_8_16 rfl rfl, s_8_17, s_8_18, gx_putI (c := 2) (j := 7) f_8_19 rfl rfl, s_8_20, s_8_21, gx_putI (c := 2) (j := 8) f_8_22 rfl rfl, s_8_23, s_8_24, gx_putR (c := 2) (j := 0) f_8_25 rfl rfl, s_8_26, s_8_27, gx_putR (c := 2) (j := 1) f_8_28 rfl rfl, s_8_29, s_8_30, gx_putR (c := 2) (j := 2) f_8_31 rfl rfl, s_8_32, yov_s, yov_n, yget_s, yopt_ok, yput_ok, yarr_ok, ycls_ok, List.length_cons, List.length_nil, List.set_cons_zero, List.set_cons_succ, List.getElem?_cons_zero, List.getElem?_cons_succ, xdef_0, xdef_1, xdef_2, xdef_3, xdef_4, xdef_5, xdef_6, xdef_7, xdef_8, xnf_0, xnf_1, xnf_2, xnf_3, xnf_4, xnf_5, xnf_6, xnf_7, xnf_8, Nat.reduceAdd, Nat.reduceLT, Nat.reduceEqDiff, reduceIte, if_true, if_false, true_and, and_true, ycl0, yi06, yup00, ite_self, Nat.add_assoc, ygi_t, Gk_v, Gk_n, xcat_nil, xcat_i, xcat_r, xcat_l, xcat_d, Nat.zero_le, Nat.reduceAdd, Nat.reduceLeDiff, true_and, and_true, ykl_i, ykl_r, ykl_n, ykl_l]
  refine Eq.to_iff (congrArg (Q (.inl none)) ?_)
  refine ymk_fil (p := 34) (q := 38) (l' := l) (fun b h1 h2 => ?_) (fun b h => ?_)
  · rcases (by omega : b = 34 ∨ b = 35 ∨ b = 36 ∨ b = 37) with rfl | rfl | rfl | rfl
    all_goals rfl
  · have hb : ∀ a, 34 ≤ a → a < 38 → ¬ b = a := fun a h1 h2 h3 => h ⟨by omega, by omega⟩
    simp only [yov_s, hb 34 (by decide) (by decide), hb 35 (by decide) (by decide), hb 36 (by decide) (by decide), hb 37 (by decide) (by decide), if_false]
end

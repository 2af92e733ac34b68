/-! ===== the class's objects are made ===== -/
theorem xnf_0 : xnf 0 = 4 := rfl
theorem xnf_1 : xnf 1 = 3 := rfl
theorem xnf_2 : xnf 2 = 9 := rfl
theorem xnf_3 : xnf 3 = 7 := rfl
theorem xnf_4 : xnf 4 = 18 := rfl
theorem xnf_5 : xnf 5 = 3 := rfl
theorem xnf_6 : xnf 6 = 10 := rfl
theorem xnf_7 : xnf 7 = 13 := rfl
theorem xnf_8 : xnf 8 = 28 := rfl
theorem yi06 : yix 0 6 := yix_I (n := 0) (by omega) (by omega)
theorem yup00 : upd (fun _ => (0 : Int32)) 0 0 = fun _ => 0 := by
  funext j
  unfold upd
  split <;> rfl
section
variable {d k i pc n : Nat} {c j a m s : Nat} {u w : Int} {ls : xL} {r : List Value} {l : List (Nat × xE)} {g : Nat → Option xE} {z : Nat × (Nat → Int32)} {Q : xR → xS → Prop}
theorem gx_putR {x : Nat} (hf : ft k i = some (pc, .putfield n, [(c : Int), (j : Int), u, w])) (hn : narrow (xtyf c j) (.ref x) = .ref x) (hi : fits (xtyf c j) (.ref x) = true) : G d k i ls (.ref x :: .ref a :: r) (ymk l g m s z) Q ↔ a < 1000000 ∧ yputC (yov l g a) c j (fun fs => G d k (i + 1) ls r (ymk ((a, .inr (c, fs.set j (.ref x))) :: l) g m s z) Q) := gx_put hf hn hi
theorem gx_putI {x : Int32} (hf : ft k i = some (pc, .putfield n, [(c : Int), (j : Int), u, w])) (hn : narrow (xtyf c j) (.int x) = .int x) (hi : fits (xtyf c j) (.int x) = true) : G d k i ls (.int x :: .ref a :: r) (ymk l g m s z) Q ↔ a < 1000000 ∧ yputC (yov l g a) c j (fun fs => G d k (i + 1) ls r (ymk ((a, .inr (c, fs.set j (.int x))) :: l) g m s z) Q) := gx_put hf hn hi
theorem gx_putL {x : Int64} (hf : ft k i = some (pc, .putfield n, [(c : Int), (j : Int), u, w])) (hn : narrow (xtyf c j) (.long x) = .long x) (hi : fits (xtyf c j) (.long x) = true) : G d k i ls (.long x :: .ref a :: r) (ymk l g m s z) Q ↔ a < 1000000 ∧ yputC (yov l g a) c j (fun fs => G d k (i + 1) ls r (ymk ((a, .inr (c, fs.set j (.long x))) :: l) g m s z) Q) := gx_put hf hn hi
theorem gx_getn (hf : ft k i = some (pc, .getfield n, [(c : Int), (j : Int), u, w])) (ha : a < 1000000) : G d k i ls (.ref a :: r) (ymk l g m s z) Q ↔ ygetC (yov l g a) c j (fun v => G d k (i + 1) ls (v :: r) (ymk l g m s z) Q) := by
  rw [gx_get hf, if_pos ha]
theorem ygi_t : True := trivial
end
section
variable {d m s : Nat} {l : List (Nat × xE)} {g : Nat → Option xE} {z : Nat × (Nat → Int32)}
theorem m_73x : Ra (d + 1) 73 [.ref 1] (ymk ((1, .inr (6, xdef 6)) :: l) g 2 s z) (.inl none) (ymk [] (yfil 1 3 (yov l g)) 3 (s + 600) z) := by
  intro Q
  show G (d + 1) 73 0 [some (.ref 1)] [] _ Q ↔ _
  simp only [s_73_0, gx_obj f_73_1, s_73_2, s_73_3, gx_narr (t := 1) (N := 600) (x := 600) f_73_4 yn600 yzB, gx_putR (c := 6) (j := 0) f_73_5 rfl rfl, s_73_6, s_73_7, gx_putI (c := 6) (j := 1) f_73_8 rfl rfl, s_73_9, s_73_10, gx_putI (c := 6) (j := 2) f_73_11 rfl rfl, s_73_12, s_73_13, gx_putI (c := 6) (j := 3) f_73_14 rfl rfl, s_73_15, s_73_16, gx_putI (c := 6) (j := 4) f_73_17 rfl rfl, s_73_18, s_73_19, gx_putI (c := 6) (j := 5) f_73_20 rfl rfl, s_73_21, s_73_22, gx_putI (c := 6) (j := 6) f_73_23 rfl rfl, s_73_24, s_73_25, gx_putI (c := 6) (j := 7) f_73_26 rfl rfl, s_73_27, s_73_28, gx_putI (c := 6) (j := 8) f_73_29 rfl rfl, s_73_30, s_73_31, gx_putI (c := 6) (j := 9) f_73_32 rfl rfl, s_73_33, yov_s, yov_n, yget_ok, yput_ok, yarr_ok, ycls_ok, List.length_cons, List.length_nil, List.set_cons_zero, List.set_cons_succ, List.getElem?_cons_zero, List.getElem?_cons_succ, xdef_0, xdef_1, xdef_2, xdef_3, xdef_4, xdef_5, xdef_6, xdef_7, xdef_8, xnf_0, xnf_1, xnf_2, xnf_3, xnf_4, xnf_5, xnf_6, xnf_7, xnf_8, Nat.reduceAdd, Nat.reduceLT, Nat.reduceEqDiff, reduceIte, if_true, if_false, true_and, and_true, ycl0, yi06, yup00, ite_self, Nat.add_assoc, ygi_t, Gk_v, Gk_n, xcat_nil, xcat_i, xcat_r, xcat_l, xcat_d, Nat.zero_le, Nat.reduceAdd, Nat.reduceLeDiff, true_and, and_true, ykl_i, ykl_r, ykl_n, ykl_l]
  refine Eq.to_iff (congrArg (Q (.inl none)) ?_)
  refine ymk_fil (p := 1) (q := 3) (l' := l) (fun b h1 h2 => ?_) (fun b h => ?_)
  · rcases (by omega : b = 1 ∨ b = 2) with rfl | rfl
    all_goals rfl
  · have hb : ∀ a, 1 ≤ a → a < 3 → ¬ b = a := fun a h1 h2 h3 => h ⟨by omega, by omega⟩
    simp only [yov_s, hb 1 (by decide) (by decide), hb 2 (by decide) (by decide), if_false]
end

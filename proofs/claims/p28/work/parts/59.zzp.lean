/-! ===== the class's objects are made ===== -/
theorem xnf_0 : xnf 0 = 4 := rfl
theorem xnf_1 : xnf 1 = 3 := rfl
theorem xnf_2 : xnf 2 = 9 := rfl
theorem xnf_3 : xnf 3 = 7 := rfl
theorem xnf_4 : xnf 4 = 18 := rfl
theorem xnf_5 : xnf 5 = 3 := rfl
theorem xnf_6 : xnf 6 = 10 := rfl
theorem xnf_7 : xnf 7 = 13 := rfl
theorem yi06 : yix 0 6 := yix_I (n := 0) (by omega) (by omega)
theorem yup00 : upd (fun _ => (0 : Int32)) 0 0 = fun _ => 0 := by
  funext j
  unfold upd
  split <;> rfl
section
variable {d k i pc n : Nat} {c j a m s : Nat} {u w : Int} {ls : xL} {r : List Value} {l : List (Nat × xE)} {g : Nat → Option xE} {z : Nat × (Nat → Int32)} {Q : xR → xS → Prop}
theorem gx_putR {x : Nat} (hf : ft k i = some (pc, .putfield n, [(c : Int), (j : Int), u, w])) (hn : narrow (xtyf c j) (.ref x) = .ref x) (hi : fits (xtyf c j) (.ref x) = true) : G d k i ls (.ref x :: .ref a :: r) (ymk l g m s z) Q ↔ a < 1000000 ∧ yputC (yov l g a) c j (fun fs => G d k (i + 1) ls r (ymk ((a, .inr (c, fs.set j (.ref x))) :: l) g m s z) Q) := gx_put hf hn hi
theorem gx_putI {x : Int32} (hf : ft k i = some (pc, .putfield n, [(c : Int), (j : Int), u, w])) (hn : narrow (xtyf c j) (.int x) = .int x) (hi : fits (xtyf c j) (.int x) = true) : G d k i ls (.int x :: .ref a :: r) (ymk l g m s z) Q ↔ a < 1000000 ∧ yputC (yov l g a) c j (fun fs => G d k (i + 1) ls r (ymk ((a, .inr (c, fs.set j (.int x))) :: l) g m s z) Q) := gx_put hf hn hi
theorem gx_putL {x : Int64} (hf : ft k i = some (pc, .putfield n, [(c : Int), (j : Int), u, w])) (hn : narrow (xtyf c j) (.long x) = .long x) (hi : fits (xtyf c j) (.long x) = true) : G d k i ls (.long x :: .ref a :: r) (ymk l g m s z) Q ↔ a < 1000000 ∧ yputC (yov l g a) c j (fun fs => G d k (i + 1) ls r (ymk ((a, .inr (c, fs.set j (.long x))) :: l) g m s z) Q) := gx_put hf hn hi
theorem gx_getn (hf : ft k i = some (pc, .getfield n, [(c : Int), (j : Int), u, w])) (ha : a < 1000000) : G d k i ls (.ref a :: r) (ymk l g m s z) Q ↔ ygetC (yov l g a) c j (fun v => G d k (i + 1) ls (v :: r) (ymk l g m s z) Q) := by
  rw [gx_get hf, if_pos ha]
theorem ygi_t : True := trivial
def yoptC (o : Option Value) (K : Value → Prop) : Prop := match o with
  | some v => K v
  | none => False
theorem yopt_ok {v : Value} {K : Value → Prop} : yoptC (some v) K ↔ K v := Iff.rfl
theorem yget_s {fs : List Value} {K : Value → Prop} : ygetC (some (.inr (c, fs))) c j K ↔ yoptC fs[j]? K := by
  unfold ygetC yoptC
  simp only [if_true]
  cases fs[j]? <;> exact Iff.rfl
theorem yfil_s {p q b : Nat} : yfil p q g b = if p ≤ b ∧ b < q then yc0 b else g b := rfl
theorem ymk_fil2 {L : List (Nat × xE)} {H h : Nat → Option xE} {p q : Nat} (h1 : ∀ b, p ≤ b → b < q → yov L H b = yc0 b) (h2 : ∀ b, ¬ (p ≤ b ∧ b < q) → yov L H b = h b) : ymk L H m s z = ymk [] (yfil p q h) m s z := by
  unfold ymk
  congr 1
  funext b
  show _ = (if p ≤ b ∧ b < q then yc0 b else h b)
  by_cases hb : p ≤ b ∧ b < q
  · rw [if_pos hb]
    exact h1 b hb.1 hb.2
  · rw [if_neg hb]
    exact h2 b hb
theorem cl30 {σ : xS} {x y : Int32} : Cl d 30 [.ref a, .int x, .int y] σ Q ↔ G d 30 0 [some (.ref a), some (.int x), some (.int y)] [] σ Q := Iff.rfl
theorem ymk_sh {e e' : xE} : ymk ((a, e) :: (a, e') :: l) g m s z = ymk ((a, e) :: l) g m s z := by
  unfold ymk
  congr 1
  funext b
  simp only [yov_s]
  split <;> rfl
theorem ymk_same {e : xE} (h : yov l g a = some e) : ymk ((a, e) :: l) g m s z = ymk l g m s z := by
  unfold ymk
  congr 1
  funext b
  rw [yov_s]
  by_cases hb : b = a
  · rw [if_pos hb, hb, h]
  · rw [if_neg hb]
theorem gx_len {N : Nat} {e : _} {aux' : List Int} (hf : ft k i = some (pc, .arraylength, aux')) (ha : a < 1000000) (h : yov l g a = some (.inl (0, (N, e)))) : G d k i ls (.ref a :: r) (ymk l g m s z) Q ↔ G d k (i + 1) ls (.int (Int32.ofNat N) :: r) (ymk l g m s z) Q := by
  refine gs_go hf ?_
  show (match xRd (ymk l g m s z) a with
      | some (.inl (t', (n, _))) => if t' = 0 ∨ t' = 1 ∨ (4 ≤ t' ∧ t' ≤ 8 ∧ a < 1000000) then xgo (i + 1) ls (.int (Int32.ofNat n) :: r) (ymk l g m s z) else none
      | _ => none) = _
  rw [yrd_lt ha, show (ymk l g m s z).1 a = yov l g a from rfl, h]
  rfl
abbrev yz40 (i : Nat) (v : Int32) : xE := .inl (0, (40, .inl (fun j => if j < i then v else 0)))
theorem l_223z {v : Int32} (ha : a < 1000000) : ∀ m' i', i' + m' = 40 → Ga d 223 5 [some (.ref a), some (.int v), some (.int (yI i')), some (.int (yI 40))] [] (ymk ((a, yz40 i' v) :: l) g m s z) (.inl none) (ymk ((a, yz40 40 v) :: l) g m s z) := by
  intro m'
  induction m' with
  | zero =>
    intro i' hi Q
    obtain rfl : i' = 40 := by omega
    have c : yI 40 ≤ yI 40 := by decide
    rw [s_223_5]
    simp only [s_223_0, s_223_1, s_223_2, s_223_4, s_223_6, s_223_7, s_223_8, s_223_9, s_223_10, s_223_12, s_223_13, s_223_14, c, if_true]
  | succ m' ih =>
    intro i' hi Q
    have c : ¬ yI 40 ≤ yI i' := fun h => absurd ((yI_le (by omega) (by omega)).mp h) (by omega)
    have c1 : (yI i').toNatClampNeg = i' := yI_clamp (by omega)
    have e1 : yI i' + 1 = yI (i' + 1) := yI_add
    have j1 : yix (yI i') 40 := yix_I (by omega) (by omega)
    have eu : upd (fun j => if j < i' then v else (0 : Int32)) i' v = fun j => if j < i' + 1 then v else 0 := by
      funext j
      by_cases h : j = i'
      · rw [h, yupd_same, if_pos (by omega)]
      · rw [yupd_ne h]
        by_cases h' : j < i'
        · rw [if_pos h', if_pos (by omega)]
        · rw [if_neg h', if_neg (by omega)]
    have ha' : yov ((a, yz40 i' v) :: l) g a = some (yz40 i' v) := by rw [yov_s, if_pos rfl]
    rw [s_223_5]
    simp only [s_223_0, s_223_1, s_223_2, s_223_4, s_223_6, s_223_7, s_223_8, s_223_9, s_223_10, s_223_12, s_223_13, s_223_14, gx_iast f_223_11, c, if_false, ha, ha', yarr_ok, j1, c1, e1, eu, ymk_sh, true_and, Gk_v, Gk_n, xcat_nil, xcat_i, xcat_r, xcat_l, xcat_d, Nat.zero_le, Nat.reduceAdd, Nat.reduceLeDiff, true_and, and_true, ykl_i, ykl_r, ykl_n, ykl_l]
    exact ih (i' + 1) (by omega) Q
theorem m_223z {v : Int32} (ha : a < 1000000) (h : yov l g a = some (.inl (0, (40, .inl (fun _ => 0))))) : Ra d 223 [.ref a, .int v] (ymk l g m s z) (.inl none) (ymk ((a, yz40 40 v) :: l) g m s z) := by
  intro Q
  have e0 : (fun j => if j < 0 then v else (0 : Int32)) = fun _ => 0 := by
    funext j
    exact if_neg (Nat.not_lt_zero j)
  have hs : ymk ((a, yz40 0 v) :: l) g m s z = ymk l g m s z := ymk_same (by rw [h]; show _ = some (Sum.inl (0, (40, Sum.inl (fun j => if j < 0 then v else (0 : Int32))))); rw [e0])
  have H := l_223z (d := d) (l := l) (g := g) (m := m) (s := s) (z := z) (v := v) ha 40 0 rfl Q
  rw [hs] at H
  refine Iff.trans ?_ H
  have gl := gx_len (d := d) (k := 223) (i := 3) (ls := [some (.ref a), some (.int v), some (.int 0), none]) (r := []) (m := m) (s := s) (z := z) (Q := Q) f_223_3 ha h
  show G d 223 0 [some (.ref a), some (.int v), none, none] [] (ymk l g m s z) Q ↔ _
  simp only [s_223_0, s_223_1, s_223_2, s_223_4, s_223_6, s_223_7, s_223_8, s_223_9, s_223_10, s_223_12, s_223_13, s_223_14, gl, Gk_v, Gk_n, xcat_nil, xcat_i, xcat_r, xcat_l, xcat_d, Nat.zero_le, Nat.reduceAdd, Nat.reduceLeDiff, true_and, and_true, ykl_i, ykl_r, ykl_n, ykl_l]
  exact Iff.rfl
end
section
variable {d m s : Nat} {l : List (Nat × xE)} {g : Nat → Option xE} {z : Nat × (Nat → Int32)}
end

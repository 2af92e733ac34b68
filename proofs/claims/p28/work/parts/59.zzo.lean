/-! ===== the objects as they are made: cells laid over cells ===== -/
/-- where a place of a strip stands in it, from 1 on; 0: no strip's -/
def ypos (a : Nat) : Nat := if 7 ≤ a ∧ a < 31 then (a - 7) % 12 + 1 else if 40 ≤ a ∧ a < 160 then (a - 40) % 12 + 1 else 0
def y0A (a : Nat) : Nat → Int32 := match ypos a with
  | 1 => fun j => if j = 9 then 1 else if j = 10 then 1 else if j = 11 then 255 else if j = 12 then 1 else 0
  | 8 => fun j => if j < 40 then -1 else 0
  | 10 => upd (fun _ => 0) 0 9999
  | _ => if a = 162 then ylay (fun _ => 0) 1 1 else if a = 1 then (fun j => if j = 9 then -1 else 0) else if a = 3 then (fun j => if j = 3 then 255 else 0) else if a = 0 then (fun j => if j = 11 then -1 else 0) else if a = 160 then (fun j => if j = 7 then -1 else 0) else fun _ => 0
def y0R (a : Nat) : Nat := if a = 3 then 6 else a + 11
def y0K (a : Nat) : Option xE := if a = 6 ∨ ypos a = 12 then ycv 0 (fun _ => 0) else none
def y0 (z : (Nat × Nat) × (Nat × (Nat → Int32))) : yT := (y0A, ((fun _ _ => 0), (y0R, (y0K, z))))
def yc0 (a : Nat) : Option xE := ycellT (y0 ((0, 0), (0, fun _ => 0))) a
def yov : List (Nat × xE) → (Nat → Option xE) → Nat → Option xE
  | [], g, b => g b
  | (a, e) :: r, g, b => if b = a then some e else yov r g b
def ymk (l : List (Nat × xE)) (g : Nat → Option xE) (m s : Nat) (z : Nat × (Nat → Int32)) : xS := (yov l g, ((m, s), z))
/-- the cells of p up to q are as they are at the end -/
def yfil (p q : Nat) (g : Nat → Option xE) (b : Nat) : Option xE := if p ≤ b ∧ b < q then yc0 b else g b
def yrws (p n k : Nat) (g : Nat → Option xE) (b : Nat) : Option xE := if p ≤ b ∧ b < p + n then some (.inl (0, (k, .inl (fun _ => 0)))) else g b
def ygetC (e : Option xE) (c j : Nat) (K : Value → Prop) : Prop := match e with
  | some (.inr (c', fs)) => if c' = c then (match fs[j]? with
    | some v => K v
    | none => False) else False
  | _ => False
def yputC (e : Option xE) (c j : Nat) (K : List Value → Prop) : Prop := match e with
  | some (.inr (c', fs)) => if c' = c ∧ j < fs.length then K fs else False
  | _ => False
def yarrC (e : Option xE) (K : Nat → (Nat → Int32) → Prop) : Prop := match e with
  | some (.inl (t, (n, .inl f))) => if t = 0 then K n f else False
  | _ => False
def yclsC (e : Option xE) (c : Nat) : Prop := match e with
  | some (.inr (c', _)) => c' = c
  | _ => False
section
variable {d k i pc n : Nat} {c j a m s : Nat} {u w : Int} {aux : List Int} {ls : xL} {r : List Value} {l : List (Nat × xE)} {g : Nat → Option xE} {z : Nat × (Nat → Int32)} {Q : xR → xS → Prop}
theorem gx_new (hf : ft k i = some (pc, .new n, [u, (c : Int), w])) : G d k i ls r (ymk l g m s z) Q ↔ m < 900000 ∧ G d k (i + 1) ls (.ref m :: r) (ymk ((m, .inr (c, xdef c)) :: l) g (m + 1) (s + xnf c) z) Q := by
  rw [G_eq hf]
  show Gs d k i ls (ymk l g m s z) Q (xalloc i ls r (ymk l g m s z) (.inr ((c : Int).toNat, xdef (c : Int).toNat)) (xnf (c : Int).toNat)) ↔ _
  unfold xalloc
  rw [Int.toNat_natCast]
  by_cases h : m < 900000
  · rw [if_pos (show (ymk l g m s z).2.1.1 < 900000 from h)]
    exact ⟨fun h' => ⟨h, h'⟩, fun h' => h'.2⟩
  · rw [if_neg (show ¬ (ymk l g m s z).2.1.1 < 900000 from h)]
    exact ⟨fun h' => h'.elim, fun h' => absurd h'.1 h⟩
theorem gx_narr {x : Int32} {t N : Nat} {e : vp_A} {u' : _} (hf : ft k i = some (pc, .newarray u', [(t : Int)])) (hn : (¬ x < 0) ∧ (x.toNatClampNeg = N ∧ N ≤ 100000)) (he : xzero t N = e) : G d k i ls (.int x :: r) (ymk l g m s z) Q ↔ m < 900000 ∧ G d k (i + 1) ls (.ref m :: r) (ymk ((m, .inl (t, e)) :: l) g (m + 1) (s + N) z) Q := by
  obtain ⟨h1, h2, h3⟩ := hn
  subst he h2
  rw [G_eq hf]
  show Gs d k i ls (ymk l g m s z) Q (if ¬ x < 0 ∧ x.toNatClampNeg ≤ 100000 then xalloc i ls r (ymk l g m s z) (.inl ((t : Int).toNat, xzero (t : Int).toNat x.toNatClampNeg)) x.toNatClampNeg else none) ↔ _
  rw [if_pos ⟨h1, h3⟩]
  unfold xalloc
  rw [Int.toNat_natCast]
  by_cases h : m < 900000
  · rw [if_pos (show (ymk l g m s z).2.1.1 < 900000 from h)]
    exact ⟨fun h' => ⟨h, h'⟩, fun h' => h'.2⟩
  · rw [if_neg (show ¬ (ymk l g m s z).2.1.1 < 900000 from h)]
    exact ⟨fun h' => h'.elim, fun h' => absurd h'.1 h⟩
theorem gx_put {v : Value} (hf : ft k i = some (pc, .putfield n, [(c : Int), (j : Int), u, w])) (hn : narrow (xtyf c j) v = v) (hi : fits (xtyf c j) v = true) : G d k i ls (v :: .ref a :: r) (ymk l g m s z) Q ↔ a < 1000000 ∧ yputC (yov l g a) c j (fun fs => G d k (i + 1) ls r (ymk ((a, .inr (c, fs.set j v)) :: l) g m s z) Q) := by
  rw [G_eq hf]
  show Gs d k i ls (ymk l g m s z) Q (xput ((c : Int).toNat) ((j : Int).toNat) i ls (v :: .ref a :: r) (ymk l g m s z)) ↔ _
  unfold xput yputC
  simp only [Int.toNat_natCast]
  by_cases ha : a < 1000000
  · simp only [ha, if_true, true_and]
    show Gs d k i ls (ymk l g m s z) Q (match yov l g a with
      | some (.inr (c', fs)) => if c' = c ∧ j < fs.length ∧ narrow (xtyf c j) v = v ∧ fits (xtyf c j) v = true then xgo (i + 1) ls r (xwr (ymk l g m s z) a (.inr (c, fs.set j v))) else none
      | _ => none) ↔ _
    split
    · rename_i c' fs he
      by_cases h : c' = c ∧ j < fs.length
      · rw [if_pos ⟨h.1, h.2, hn, hi⟩, if_pos h]
        exact Iff.rfl
      · rw [if_neg (fun h' => h ⟨h'.1, h'.2.1⟩), if_neg h]
        exact Iff.rfl
    · exact Iff.rfl
  · simp only [ha, if_false, false_and]
    exact Iff.rfl
theorem gx_get (hf : ft k i = some (pc, .getfield n, [(c : Int), (j : Int), u, w])) : G d k i ls (.ref a :: r) (ymk l g m s z) Q ↔ (if a < 1000000 then ygetC (yov l g a) c j (fun v => G d k (i + 1) ls (v :: r) (ymk l g m s z) Q) else G d k i ls (.ref a :: r) (ymk l g m s z) Q) := by
  by_cases ha : a < 1000000
  · rw [if_pos ha, G_eq hf]
    show Gs d k i ls (ymk l g m s z) Q (xget ((c : Int).toNat) ((j : Int).toNat) i ls (.ref a :: r) (ymk l g m s z)) ↔ _
    unfold xget ygetC
    simp only [Int.toNat_natCast, yrd_lt ha]
    show Gs d k i ls (ymk l g m s z) Q (match yov l g a with
      | some (.inr (c', fs)) => if c' = c then (match fs[j]? with
        | some v => xgo (i + 1) ls (v :: r) (ymk l g m s z)
        | none => none) else none
      | _ => none) ↔ _
    split
    · rename_i c' fs he
      by_cases h : c' = c
      · rw [if_pos h, if_pos h]
        split <;> exact Iff.rfl
      · rw [if_neg h, if_neg h]
        exact Iff.rfl
    · exact Iff.rfl
  · rw [if_neg ha]
theorem gx_iast {x v : Int32} (hf : ft k i = some (pc, .iastore, aux)) : G d k i ls (.int v :: .int x :: .ref a :: r) (ymk l g m s z) Q ↔ a < 1000000 ∧ yarrC (yov l g a) (fun n f => yix x n ∧ G d k (i + 1) ls r (ymk ((a, .inl (0, (n, .inl (upd f x.toNatClampNeg v)))) :: l) g m s z) Q) := by
  rw [G_eq hf]
  show Gs d k i ls (ymk l g m s z) Q (xastI i ls (.int v :: .int x :: .ref a :: r) (ymk l g m s z)) ↔ _
  unfold xastI yarrC yix
  by_cases ha : a < 1000000
  · simp only [ha, if_true, true_and]
    show Gs d k i ls (ymk l g m s z) Q (match yov l g a with
      | some (.inl (t', (n, .inl f))) => if t' = 0 ∧ ¬ (x < 0 ∨ n ≤ x.toNatClampNeg) then xgo (i + 1) ls r (xwr (ymk l g m s z) a (.inl (0, (n, .inl (upd f x.toNatClampNeg v))))) else none
      | _ => none) ↔ _
    split
    · rename_i t n f he
      by_cases h : t = 0
      · rw [if_pos h]
        by_cases h' : ¬ (x < 0 ∨ n ≤ x.toNatClampNeg)
        · rw [if_pos ⟨h, h'⟩]
          exact ⟨fun q => ⟨h', q⟩, fun q => q.2⟩
        · rw [if_neg (fun q => h' q.2)]
          exact ⟨fun q => q.elim, fun q => absurd q.1 h'⟩
      · rw [if_neg h, if_neg (fun q => h q.1)]
        exact Iff.rfl
    · exact Iff.rfl
  · simp only [ha, if_false, false_and]
    exact Iff.rfl
theorem gx_obj {σ : xS} (hf : ft k i = some (pc, .invokespecial n, [0, 1, 20, w])) : G d k i ls (.ref a :: r) σ Q ↔ (a < 1000000 ∧ xcat r ≤ 8) ∧ G d k (i + 1) ls r σ Q := by
  rw [G_eq hf]
  show Gs d k i ls σ Q (if a < 1000000 ∧ xcat r ≤ 8 then xgo (i + 1) ls r σ else none) ↔ _
  by_cases h : a < 1000000 ∧ xcat r ≤ 8
  · rw [if_pos h]
    exact ⟨fun q => ⟨h, q⟩, fun q => q.2⟩
  · rw [if_neg h]
    exact ⟨fun q => q.elim, fun q => absurd q.1 h⟩
theorem xcall_g {σ : xS} {k' na kind : Nat} (as : List Value) {bs : List Value} (hl : as.length = na) (hr : as.reverse = .ref a :: bs) (hx : (xargs as.reverse).length ≤ xmlf k') (hk : ¬ (kind = 1 ∨ kind = 4 ∨ kind = 6)) (ha : a < 1000000) (hc : yclsC (σ.1 a) (xcxf k')) : xcall k' na kind (as ++ r) σ = if xcat r ≤ 8 then some (.inr (.inl (k', as.reverse, r))) else none := by
  subst hl
  unfold xcall
  rw [List.take_left, List.drop_left, List.length_append, if_neg hk]
  by_cases h : xcat r ≤ 8
  · rw [if_pos ⟨by omega, h, hx⟩, if_pos h, hr]
    simp only [yrd_lt ha]
    unfold yclsC at hc
    split at hc
    · rename_i c' fs he
      rw [he]
      simp only [hc, if_true]
    · exact hc.elim
  · rw [if_neg (fun hh => h hh.2.1), if_neg h]
theorem gx_call1 {k' kind : Nat} (hf : ft k i = some (pc, .invokespecial n, [(k' : Int), ((1 : Nat) : Int), (kind : Int), w])) (hk : kind ≤ 6 ∧ ¬ (kind = 1 ∨ kind = 4 ∨ kind = 6)) (hx : 1 ≤ xmlf k') (hcx : xcxf k' = c) (ha : a < 1000000) (hc : yclsC (yov l g a) c) : G (d + 1) k i ls (.ref a :: r) (ymk l g m s z) Q ↔ xcat r ≤ 8 ∧ Cl d k' [.ref a] (ymk l g m s z) (Gk (d + 1) k i ls r Q) :=
  gs_call hf ((xinv_call (i := i) (n := w) (ls := ls) (Nat.le_trans hk.1 (by decide))).trans (xcall_g (as := [.ref a]) (bs := []) rfl rfl hx hk.2 ha (by rw [hcx]; exact hc)))
theorem gx_call2 {k' kind b : Nat} (hf : ft k i = some (pc, .invokespecial n, [(k' : Int), ((2 : Nat) : Int), (kind : Int), w])) (hk : kind ≤ 6 ∧ ¬ (kind = 1 ∨ kind = 4 ∨ kind = 6)) (hx : 2 ≤ xmlf k') (hcx : xcxf k' = c) (ha : a < 1000000) (hc : yclsC (yov l g a) c) : G (d + 1) k i ls (.ref b :: .ref a :: r) (ymk l g m s z) Q ↔ xcat r ≤ 8 ∧ Cl d k' [.ref a, .ref b] (ymk l g m s z) (Gk (d + 1) k i ls r Q) :=
  gs_call hf ((xinv_call (i := i) (n := w) (ls := ls) (Nat.le_trans hk.1 (by decide))).trans (xcall_g (as := [.ref b, .ref a]) (bs := [.ref b]) rfl rfl hx hk.2 ha (by rw [hcx]; exact hc)))
theorem gx_call3 {k' kind b b' : Nat} (hf : ft k i = some (pc, .invokespecial n, [(k' : Int), ((3 : Nat) : Int), (kind : Int), w])) (hk : kind ≤ 6 ∧ ¬ (kind = 1 ∨ kind = 4 ∨ kind = 6)) (hx : 3 ≤ xmlf k') (hcx : xcxf k' = c) (ha : a < 1000000) (hc : yclsC (yov l g a) c) : G (d + 1) k i ls (.ref b' :: .ref b :: .ref a :: r) (ymk l g m s z) Q ↔ xcat r ≤ 8 ∧ Cl d k' [.ref a, .ref b, .ref b'] (ymk l g m s z) (Gk (d + 1) k i ls r Q) :=
  gs_call hf ((xinv_call (i := i) (n := w) (ls := ls) (Nat.le_trans hk.1 (by decide))).trans (xcall_g (as := [.ref b', .ref b, .ref a]) (bs := [.ref b, .ref b']) rfl rfl hx hk.2 ha (by rw [hcx]; exact hc)))
theorem gx_call3i {k' kind : Nat} {x y : Int32} (hf : ft k i = some (pc, .invokevirtual n, [(k' : Int), ((3 : Nat) : Int), (kind : Int), w])) (hk : kind ≤ 6 ∧ ¬ (kind = 1 ∨ kind = 4 ∨ kind = 6)) (hx : 3 ≤ xmlf k') (hcx : xcxf k' = c) (ha : a < 1000000) (hc : yclsC (yov l g a) c) : G (d + 1) k i ls (.int y :: .int x :: .ref a :: r) (ymk l g m s z) Q ↔ xcat r ≤ 8 ∧ Cl d k' [.ref a, .int x, .int y] (ymk l g m s z) (Gk (d + 1) k i ls r Q) :=
  gs_call hf ((xinv_call (i := i) (n := w) (ls := ls) (Nat.le_trans hk.1 (by decide))).trans (xcall_g (as := [.int y, .int x, .ref a]) (bs := [.int x, .int y]) rfl rfl hx hk.2 ha (by rw [hcx]; exact hc)))
theorem gx_call4 {k' kind b b' b'' : Nat} (hf : ft k i = some (pc, .invokespecial n, [(k' : Int), ((4 : Nat) : Int), (kind : Int), w])) (hk : kind ≤ 6 ∧ ¬ (kind = 1 ∨ kind = 4 ∨ kind = 6)) (hx : 4 ≤ xmlf k') (hcx : xcxf k' = c) (ha : a < 1000000) (hc : yclsC (yov l g a) c) : G (d + 1) k i ls (.ref b'' :: .ref b' :: .ref b :: .ref a :: r) (ymk l g m s z) Q ↔ xcat r ≤ 8 ∧ Cl d k' [.ref a, .ref b, .ref b', .ref b''] (ymk l g m s z) (Gk (d + 1) k i ls r Q) :=
  gs_call hf ((xinv_call (i := i) (n := w) (ls := ls) (Nat.le_trans hk.1 (by decide))).trans (xcall_g (as := [.ref b'', .ref b', .ref b, .ref a]) (bs := [.ref b, .ref b', .ref b'']) rfl rfl hx hk.2 ha (by rw [hcx]; exact hc)))
theorem yov_s {e : xE} {b : Nat} : yov ((a, e) :: l) g b = if b = a then some e else yov l g b := rfl
theorem yov_n {b : Nat} : yov [] g b = g b := rfl
theorem yget_ok {fs : List Value} {v : Value} {K : Value → Prop} (h : fs[j]? = some v) : ygetC (some (.inr (c, fs))) c j K ↔ K v := by
  unfold ygetC
  simp only [if_true, h]
theorem yput_ok {fs : List Value} {K : List Value → Prop} (h : j < fs.length) : yputC (some (.inr (c, fs))) c j K ↔ K fs := by
  unfold yputC
  simp only [h, and_self, if_true]
theorem yarr_ok {f : Nat → Int32} {K : Nat → (Nat → Int32) → Prop} : yarrC (some (.inl (0, (n, .inl f)))) K ↔ K n f := by
  unfold yarrC
  simp only [if_true]
theorem ycls_ok {fs : List Value} : yclsC (some (.inr (c, fs))) c ↔ True := ⟨fun _ => trivial, fun _ => rfl⟩
theorem yfil_no {p q b : Nat} (h : ¬ (p ≤ b ∧ b < q)) : yfil p q g b = g b := if_neg h
theorem yfil_in {p q b : Nat} (h : p ≤ b ∧ b < q) : yfil p q g b = yc0 b := if_pos h
end
theorem xdef_0 : xdef 0 = [.null, .null, .null, .int 0] := rfl
theorem xdef_1 : xdef 1 = [.null, .int 0, .int 0] := rfl
theorem xdef_2 : xdef 2 = [.null, .null, .null, .null, .null, .null, .int 0, .int 0, .int 0] := rfl
theorem xdef_3 : xdef 3 = [.null, .null, .null, .long 0, .long 0, .int 0, .int 0] := rfl
theorem xdef_4 : xdef 4 = [.null, .null, .null, .null, .null, .null, .null, .null, .null, .int 0, .int 0, .int 0, .int 0, .int 0, .int 0, .long 0, .null, .null] := rfl
theorem xdef_5 : xdef 5 = [.null, .null, .int 0] := rfl
theorem xdef_6 : xdef 6 = [.null, .int 0, .int 0, .int 0, .int 0, .int 0, .int 0, .int 0, .int 0, .int 0] := rfl
theorem xdef_7 : xdef 7 = [.null, .null, .null, .null, .null, .null, .null, .null, .null, .int 0, .int 0, .int 0, .int 0] := rfl
theorem yn600 : (¬ (600 : Int32) < 0) ∧ ((600 : Int32).toNatClampNeg = 600 ∧ 600 ≤ 100000) := ⟨by decide, rfl, by decide⟩
theorem yn256 : (¬ (256 : Int32) < 0) ∧ ((256 : Int32).toNatClampNeg = 256 ∧ 256 ≤ 100000) := ⟨by decide, rfl, by decide⟩
theorem yn16 : (¬ (16 : Int32) < 0) ∧ ((16 : Int32).toNatClampNeg = 16 ∧ 16 ≤ 100000) := ⟨by decide, rfl, by decide⟩
theorem yn0' : (¬ (0 : Int32) < 0) ∧ ((0 : Int32).toNatClampNeg = 0 ∧ 0 ≤ 100000) := ⟨by decide, rfl, by decide⟩
theorem yn40' : (¬ (40 : Int32) < 0) ∧ ((40 : Int32).toNatClampNeg = 40 ∧ 40 ≤ 100000) := ⟨by decide, rfl, by decide⟩
theorem yn6' : (¬ (6 : Int32) < 0) ∧ ((6 : Int32).toNatClampNeg = 6 ∧ 6 ≤ 100000) := ⟨by decide, rfl, by decide⟩
theorem yn60' : (¬ (60 : Int32) < 0) ∧ ((60 : Int32).toNatClampNeg = 60 ∧ 60 ≤ 100000) := ⟨by decide, rfl, by decide⟩
theorem yn300' : (¬ (300 : Int32) < 0) ∧ ((300 : Int32).toNatClampNeg = 300 ∧ 300 ≤ 100000) := ⟨by decide, rfl, by decide⟩
theorem yn1540' : (¬ (1540 : Int32) < 0) ∧ ((1540 : Int32).toNatClampNeg = 1540 ∧ 1540 ≤ 100000) := ⟨by decide, rfl, by decide⟩
theorem yn340' : (¬ (340 : Int32) < 0) ∧ ((340 : Int32).toNatClampNeg = 340 ∧ 340 ≤ 100000) := ⟨by decide, rfl, by decide⟩
theorem yn2' : (¬ (2 : Int32) < 0) ∧ ((2 : Int32).toNatClampNeg = 2 ∧ 2 ≤ 100000) := ⟨by decide, rfl, by decide⟩
theorem yn427' : (¬ (427 : Int32) < 0) ∧ ((427 : Int32).toNatClampNeg = 427 ∧ 427 ≤ 100000) := ⟨by decide, rfl, by decide⟩
theorem yn1200' : (¬ (1200 : Int32) < 0) ∧ ((1200 : Int32).toNatClampNeg = 1200 ∧ 1200 ≤ 100000) := ⟨by decide, rfl, by decide⟩
theorem yn10' : (¬ (10 : Int32) < 0) ∧ ((10 : Int32).toNatClampNeg = 10 ∧ 10 ≤ 100000) := ⟨by decide, rfl, by decide⟩
theorem yn1' : (¬ (1 : Int32) < 0) ∧ ((1 : Int32).toNatClampNeg = 1 ∧ 1 ≤ 100000) := ⟨by decide, rfl, by decide⟩
theorem yzI {N : Nat} : xzero 0 N = (N, .inl (fun _ => 0)) := rfl
theorem yzB {N : Nat} : xzero 1 N = (N, .inl (fun _ => 0)) := rfl
theorem yzZ {N : Nat} : xzero 2 N = (N, .inl (fun _ => 0)) := rfl
theorem yzL {N : Nat} : xzero 3 N = (N, .inr (.inl (fun _ => 0))) := rfl
/-- the state behind an object's making: its overlays are the end's cells -/
theorem ymk_fil {l l' : List (Nat × xE)} {g : Nat → Option xE} {p q m s : Nat} {z : Nat × (Nat → Int32)} (h1 : ∀ b, p ≤ b → b < q → yov l g b = yc0 b) (h2 : ∀ b, ¬ (p ≤ b ∧ b < q) → yov l g b = yov l' g b) : ymk l g m s z = ymk [] (yfil p q (yov l' g)) m s z := by
  unfold ymk
  congr 1
  funext b
  show _ = (if p ≤ b ∧ b < q then yc0 b else yov l' g b)
  by_cases h : p ≤ b ∧ b < q
  · rw [if_pos h]
    exact h1 b h.1 h.2
  · rw [if_neg h]
    exact h2 b h

/-! ===== sums as texts: what both sides read ===== -/
/-- an error with its place, or where reading goes on and the items -/
abbrev yPs : Type := (Int32 × Nat) ⊕ (Nat × List Int32)
def yok (p : Nat × List Int32) : yPs := .inr p
def yer (c : Int32) (a : Nat) : yPs := .inl (c, a)
def ythen (r : yPs) (f : Nat → List Int32 → yPs) : yPs := match r with
  | .inl e => .inl e
  | .inr (q, l) => f q l
theorem ythen_ok {q : Nat} {l : List Int32} {f : Nat → List Int32 → yPs} : ythen (.inr (q, l)) f = f q l := rfl
theorem ythen_er {e : Int32 × Nat} {f : Nat → List Int32 → yPs} : ythen (.inl e) f = .inl e := rfl
theorem ythen_as {r : yPs} {f g : Nat → List Int32 → yPs} : ythen (ythen r f) g = ythen r (fun q l => ythen (f q l) g) := by
  rcases r with e | ⟨q, l⟩ <;> rfl
/-- is the sign c at q -/
def yat (n : Nat) (B : Nat → Nat) (q c : Nat) : Bool := decide (q < n ∧ B q = c)
/-- the code of the operation at q, or 0 -/
def yopc (n : Nat) (B : Nat → Nat) (q : Nat) : Int32 := if yat n B q 43 = true then -3 else if yat n B q 45 = true then -4 else if yat n B q 42 = true then -5 else if yat n B q 47 = true then -6 else 0
def ymul (n : Nat) (B : Nat → Nat) (q : Nat) : Bool := yat n B q 42 || yat n B q 47
def yadd (n : Nat) (B : Nat → Nat) (q : Nat) : Bool := yat n B q 43 || yat n B q 45
/-- what is neither a sum in brackets: x, level or a number -/
def yleaf (n : Nat) (B : Nat → Nat) (q : Nat) (l : List Int32) : yPs :=
  if yisw n B q 13 = true then .inr (ysk n B (q + ywl 13), l ++ [-1])
  else if yisw n B q 7 = true then .inr (ysk n B (q + ywl 7), l ++ [-2])
  else if ynum n B q 0 9999 = true then .inr (ysk n B (yw ydg B (n - q) q), l ++ [yI (yvm B (n - q) q 0)])
  else .inl (if q < n ∧ ydg (B q) = true then -3 else -2, q)
/-- the loops of a term and of a sum, with the factors of the next nesting given -/
def ytl (n : Nat) (B : Nat → Nat) (fac : Nat → List Int32 → yPs) : Nat → Nat → List Int32 → yPs
  | 0, q, l => .inr (q, l)
  | m + 1, q, l => if ymul n B q = true then ythen (fac (ysk n B (q + 1)) l) (fun q' l' => ytl n B fac m q' (l' ++ [yopc n B q])) else .inr (q, l)
def ytm' (n : Nat) (B : Nat → Nat) (fac : Nat → List Int32 → yPs) (q : Nat) (l : List Int32) : yPs := ythen (fac q l) (ytl n B fac n)
def ysl (n : Nat) (B : Nat → Nat) (fac : Nat → List Int32 → yPs) : Nat → Nat → List Int32 → yPs
  | 0, q, l => .inr (q, l)
  | m + 1, q, l => if yadd n B q = true then ythen (ytm' n B fac (ysk n B (q + 1)) l) (fun q' l' => ysl n B fac m q' (l' ++ [yopc n B q])) else .inr (q, l)
def ysu (n : Nat) (B : Nat → Nat) (fac : Nat → List Int32 → yPs) (q : Nat) (l : List Int32) : yPs := ythen (ytm' n B fac q l) (ysl n B fac n)
/-- a factor with k nestings left -/
def yfac (n : Nat) (B : Nat → Nat) : Nat → Nat → List Int32 → yPs
  | 0, q, l => if yat n B q 40 = true then .inl (-6, q) else yleaf n B q l
  | k + 1, q, l => if yat n B q 40 = true then ythen (ysu n B (yfac n B k) (ysk n B (q + 1)) l) (fun q' l' => if yat n B q' 41 = true then .inr (ysk n B (q' + 1), l') else .inl (-2, q')) else yleaf n B q l
/-- the class's loop, with the operation that waits -/
def ypn (p : Int32) : List Int32 := if p = 0 then [] else [p]
def ycl' (n : Nat) (B : Nat → Nat) (fac : Nat → List Int32 → yPs) : Nat → Int32 → Nat → List Int32 → yPs
  | 0, p, q, l => .inr (q, l ++ ypn p)
  | m + 1, p, q, l => if yopc n B q = 0 then .inr (q, l ++ ypn p)
    else if ymul n B q = true then ythen (fac (ysk n B (q + 1)) l) (fun q' l' => ycl' n B fac m p q' (l' ++ [yopc n B q]))
    else ythen (fac (ysk n B (q + 1)) (l ++ ypn p)) (fun q' l' => ycl' n B fac m (yopc n B q) q' l')
def ysu' (n : Nat) (B : Nat → Nat) (fac : Nat → List Int32 → yPs) (q : Nat) (l : List Int32) : yPs := ythen (fac q l) (ycl' n B fac n 0)
theorem yopc_0 {n : Nat} {B : Nat → Nat} {q : Nat} : yopc n B q = 0 ↔ ymul n B q = false ∧ yadd n B q = false := by
  unfold yopc ymul yadd
  cases h1 : yat n B q 43 <;> cases h2 : yat n B q 45 <;> cases h3 : yat n B q 42 <;> cases h4 : yat n B q 47 <;> decide
theorem yat_1 {n : Nat} {B : Nat → Nat} {q c e : Nat} (hce : c ≠ e) (h : yat n B q c = true) : yat n B q e = false := by
  have h' := of_decide_eq_true h
  exact decide_eq_false (fun g => hce (by rw [← h'.2, g.2]))
theorem yadd_mul {n : Nat} {B : Nat → Nat} {q : Nat} (h : yadd n B q = true) : ymul n B q = false := by
  unfold yadd at h
  unfold ymul
  rw [Bool.or_eq_true] at h
  rcases h with h | h
  · rw [yat_1 (e := 42) (by decide) h, yat_1 (e := 47) (by decide) h]
    rfl
  · rw [yat_1 (e := 42) (by decide) h, yat_1 (e := 47) (by decide) h]
    rfl
/-- factors only go on -/
abbrev yfwd (n : Nat) (fac : Nat → List Int32 → yPs) : Prop := ∀ q l q' l', q ≤ n → fac q l = .inr (q', l') → q < q' ∧ q' ≤ n

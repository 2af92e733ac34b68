/-! ===== bits are counted ===== -/
def ypc : Nat → Nat → Nat
  | 0, _ => 0
  | n + 1, w => w % 2 + ypc n (w / 2)
/-- a number by its digits to the base 16, the lowest first -/
def yhx (c : Nat → Nat) : Nat → Nat
  | 0 => 0
  | n + 1 => c 0 + 16 * yhx (fun i => c (i + 1)) n
theorem yhx_and {c e : Nat → Nat} : ∀ n (c e : Nat → Nat), (∀ i, i < n → c i < 16) → (∀ i, i < n → e i < 16) → yhx c n &&& yhx e n = yhx (fun i => c i &&& e i) n := by
  intro n
  induction n with
  | zero =>
    intro c e _ _
    show (0 : Nat) &&& 0 = 0
    decide
  | succ n ih =>
    intro c e hc he
    have h0 := hc 0 (by omega)
    have h1 := he 0 (by omega)
    have hi := ih (fun i => c (i + 1)) (fun i => e (i + 1)) (fun i hi => hc (i + 1) (by omega)) (fun i hi => he (i + 1) (by omega))
    simp only [yhx]
    have hm := Nat.and_mod_two_pow (a := c 0 + 16 * yhx (fun i => c (i + 1)) n) (b := e 0 + 16 * yhx (fun i => e (i + 1)) n) (n := 4)
    have hd := Nat.and_div_two_pow (a := c 0 + 16 * yhx (fun i => c (i + 1)) n) (b := e 0 + 16 * yhx (fun i => e (i + 1)) n) (n := 4)
    have e4 : (2 : Nat) ^ 4 = 16 := rfl
    rw [e4] at hm hd
    rw [show (c 0 + 16 * yhx (fun i => c (i + 1)) n) % 16 = c 0 by omega, show (e 0 + 16 * yhx (fun i => e (i + 1)) n) % 16 = e 0 by omega] at hm
    rw [show (c 0 + 16 * yhx (fun i => c (i + 1)) n) / 16 = yhx (fun i => c (i + 1)) n by omega, show (e 0 + 16 * yhx (fun i => e (i + 1)) n) / 16 = yhx (fun i => e (i + 1)) n by omega, hi] at hd
    rw [← hm, ← hd]
    omega
theorem yhx_congr : ∀ n (c e : Nat → Nat), (∀ i, i < n → c i = e i) → yhx c n = yhx e n := by
  intro n
  induction n with
  | zero => intro c e _; rfl
  | succ n ih =>
    intro c e h
    simp only [yhx]
    rw [h 0 (by omega), ih _ _ (fun i hi => h (i + 1) (by omega))]
/-- shifted to the right by one or two bits: by digits -/
theorem yhx_div {m : Nat} (hm : m = 2 ∨ m = 4) : ∀ n (c : Nat → Nat), (∀ i, i < n → c i < 16) → (∀ i, n ≤ i → c i = 0) → yhx c n / m = yhx (fun i => c i / m + (16 / m) * (c (i + 1) % m)) n := by
  intro n
  induction n with
  | zero => intro c _ _; simp [yhx]
  | succ n ih =>
    intro c hc hz
    have hi := ih (fun i => c (i + 1)) (fun i hi => hc (i + 1) (by omega)) (fun i hi => hz (i + 1) (by omega))
    simp only [yhx]
    rw [← hi]
    have h0 := hc 0 (by omega)
    cases n with
    | zero =>
      have h1 := hz 1 (by omega)
      simp only [yhx, h1]
      rcases hm with h | h <;> subst h <;> omega
    | succ n =>
      have h1 := hc 1 (by omega)
      simp only [yhx]
      rcases hm with h | h <;> subst h <;> omega
theorem yhx_sub : ∀ n (c e : Nat → Nat), (∀ i, i < n → e i ≤ c i) → yhx c n - yhx e n = yhx (fun i => c i - e i) n ∧ yhx e n ≤ yhx c n := by
  intro n
  induction n with
  | zero => intro c e _; exact ⟨rfl, Nat.le_refl _⟩
  | succ n ih =>
    intro c e h
    obtain ⟨h1, h2⟩ := ih (fun i => c (i + 1)) (fun i => e (i + 1)) (fun i hi => h (i + 1) (by omega))
    have h0 := h 0 (by omega)
    simp only [yhx]
    rw [← h1]
    constructor <;> omega
theorem yhx_add : ∀ n (c e : Nat → Nat), yhx c n + yhx e n = yhx (fun i => c i + e i) n := by
  intro n
  induction n with
  | zero => intro c e; rfl
  | succ n ih =>
    intro c e
    simp only [yhx]
    rw [← ih]
    omega
theorem yhx_of : ∀ n w, w < 16 ^ n → yhx (fun i => w / 16 ^ i % 16) n = w := by
  intro n
  induction n with
  | zero => intro w h; simp at h; simp [yhx, h]
  | succ n ih =>
    intro w h
    have h1 : w / 16 < 16 ^ n := by
      rw [Nat.pow_succ] at h
      omega
    have h2 := ih (w / 16) h1
    simp only [yhx, Nat.pow_zero, Nat.div_one]
    have e : yhx (fun i => w / 16 ^ (i + 1) % 16) n = yhx (fun i => w / 16 / 16 ^ i % 16) n := by
      apply yhx_congr
      intro i _
      rw [Nat.pow_succ, Nat.mul_comm, Nat.div_div_eq_div_mul]
    rw [e, h2]
    omega
theorem yhx_lt : ∀ n (c : Nat → Nat), (∀ i, i < n → c i < 16) → yhx c n < 16 ^ n := by
  intro n
  induction n with
  | zero => intro c _; simp [yhx]
  | succ n ih =>
    intro c h
    have h1 := ih (fun i => c (i + 1)) (fun i hi => h (i + 1) (by omega))
    have h0 := h 0 (by omega)
    simp only [yhx]
    rw [Nat.pow_succ]
    omega
def yp4 (c : Nat) : Nat := c % 2 + c / 2 % 2 + c / 4 % 2 + c / 8 % 2
theorem ypc_hx : ∀ n (c : Nat → Nat), (∀ i, i < n → c i < 16) → ypc (4 * n) (yhx c n) = yfold (fun i a => a + yp4 (c i)) n 0 0 := by
  have gen : ∀ n (c : Nat → Nat) (j a : Nat), (∀ i, i < n → c (i + j) < 16) → a + ypc (4 * n) (yhx (fun i => c (i + j)) n) = yfold (fun i a => a + yp4 (c i)) n j a := by
    intro n
    induction n with
    | zero => intro c j a _; rfl
    | succ n ih =>
      intro c j a h
      have h0 := h 0 (by omega)
      rw [Nat.zero_add] at h0
      have hi := ih c (j + 1) (a + yp4 (c j)) (fun i hi => by
        have := h (i + 1) (by omega)
        rwa [show i + 1 + j = i + (j + 1) by omega] at this)
      simp only [yfold]
      rw [← hi, show 4 * (n + 1) = 4 * n + 1 + 1 + 1 + 1 by omega]
      simp only [ypc, yhx, Nat.zero_add]
      have e : yhx (fun i => c (i + 1 + j)) n = yhx (fun i => c (i + (j + 1))) n := yhx_congr _ _ _ (fun i _ => by rw [show i + 1 + j = i + (j + 1) by omega])
      rw [e]
      generalize yhx (fun i => c (i + (j + 1))) n = y
      have e1 : (c j + 16 * y) / 2 / 2 / 2 / 2 = y := by omega
      rw [e1]
      unfold yp4
      omega
  intro n c h
  have := gen n c 0 0 (fun i hi => h i hi)
  rw [Nat.zero_add] at this
  exact this
set_option maxHeartbeats 400000 in
theorem ysw_end {q0 q1 q2 q3 q4 q5 q6 q7 r1 r2 r3 r4 r5 r6 x3 x4 x5 : Nat} (h0 : q0 ≤ 8) (h1 : q1 ≤ 8) (h2 : q2 ≤ 8) (h3 : q3 ≤ 8) (h4 : q4 ≤ 8) (h5 : q5 ≤ 8) (h6 : q6 ≤ 8) (h7 : q7 ≤ 8)
    (e0 : x3 = q0 + 256 * r1) (e1 : r1 = q1 + 256 * r2) (e2 : r2 = q2 + 256 * r3) (e3 : r3 = q3 + 256 * r4) (e4 : r4 = q4 + 256 * r5) (e5 : r5 = q5 + 256 * r6) (e6 : r6 = q6 + 256 * q7) (f4 : x4 = x3 + x3 / 256) (f5 : x5 = x4 + x4 / 65536) :
    x4 < 18446744073709551616 ∧ (x5 < 18446744073709551616 ∧ (x5 + x5 / 4294967296 < 18446744073709551616 ∧ (x5 + x5 / 4294967296) % 128 = q0 + q1 + q2 + q3 + q4 + q5 + q6 + q7)) := by
  have d3 : x3 / 256 = r1 := by omega
  have d4 : x4 / 65536 = r2 + r3 := by
    rw [d3] at f4
    omega
  have d5 : x5 / 4294967296 = r4 + r5 + r6 + q7 := by
    rw [d3] at f4
    rw [d4] at f5
    omega
  rw [d3] at f4
  rw [d4] at f5
  rw [d5]
  refine ⟨by omega, by omega, by omega, ?_⟩
  have hx : x5 + (r4 + r5 + r6 + q7) = (q0 + q1 + q2 + q3 + q4 + q5 + q6 + q7) + 128 * (2 * (r1 + r2 + r3 + r4 + r5 + r6 + q7)) := by omega
  rw [hx]
  omega
theorem yhx_two {f : Nat → Nat} (n : Nat) (h : f 1 = 0) : yhx f (n + 2) = f 0 + 256 * yhx (fun i => f (i + 2)) n := by
  have e : yhx f (n + 2) = f 0 + 16 * (f 1 + 16 * yhx (fun i => f (i + 2)) n) := rfl
  rw [e, h]
  omega
theorem yhx_ext : ∀ n m (f : Nat → Nat), yhx f n = yhx (fun i => if i < n then f i else 0) (n + m) := by
  intro n
  induction n with
  | zero =>
    intro m f
    have z : ∀ k, yhx (fun _ => 0) k = 0 := by
      intro k
      induction k with
      | zero => rfl
      | succ k ih => simp only [yhx, ih]
    have e : (fun i => if i < 0 then f i else 0) = fun _ => 0 := by
      funext i
      rw [if_neg (Nat.not_lt_zero _)]
    rw [e, z]
    rfl
  | succ n ih =>
    intro m f
    rw [show n + 1 + m = (n + m) + 1 by omega]
    simp only [yhx]
    rw [ih m (fun i => f (i + 1)), if_pos (Nat.succ_pos n)]
    congr 2
    apply yhx_congr
    intro i _
    by_cases h : i < n
    · rw [if_pos h, if_pos (by omega)]
    · rw [if_neg h, if_neg (by omega)]
set_option maxHeartbeats 400000 in
theorem ysw_3a {c : Nat → Nat} (hb : ∀ i, yp4 (c i) ≤ 4) {x2 : Nat} (hx2 : x2 = yhx (fun i => yp4 (c i)) 16) : x2 + x2 / 16 < 16 ^ 16 ∧ ((x2 + x2 / 16) &&& 1085102592571150095) = yhx (fun i => if i % 2 = 0 then yp4 (c i) + yp4 (c (i + 1)) else 0) 16 := by
  have mf : (1085102592571150095 : Nat) = yhx (fun i => if i % 2 = 0 then 15 else 0) 16 := by decide
  have hdiv : x2 / 16 = yhx (fun i => yp4 (c (i + 1))) 15 := by
    have e : x2 = yp4 (c 0) + 16 * yhx (fun i => yp4 (c (i + 1))) 15 := hx2
    have := hb 0
    omega
  have hx3a : x2 + x2 / 16 = yhx (fun i => yp4 (c i) + (if i < 15 then yp4 (c (i + 1)) else 0)) 16 := by
    rw [hdiv, yhx_ext 15 1 (fun i => yp4 (c (i + 1))), hx2, yhx_add]
  have hs : ∀ i, yp4 (c i) + (if i < 15 then yp4 (c (i + 1)) else 0) < 16 := fun i => by
    have h1 := hb i
    have h2 := hb (i + 1)
    split <;> omega
  have g15 : ∀ a, a < 16 → a &&& 15 = a := by decide
  refine ⟨?_, ?_⟩
  · rw [hx3a]
    exact yhx_lt 16 _ (fun i _ => hs i)
  · rw [hx3a, mf, yhx_and (c := c) (e := c) 16 _ _ (fun i _ => hs i) (fun i _ => by split <;> decide)]
    apply yhx_congr
    intro i hi
    by_cases h : i % 2 = 0
    · rw [if_pos h, if_pos h, g15 _ (hs i), if_pos (by omega)]
    · rw [if_neg h, if_neg h, Nat.and_zero]
set_option maxHeartbeats 400000 in
theorem ysw_3b {c : Nat → Nat} {x3 : Nat} (h : x3 = yhx (fun i => if i % 2 = 0 then yp4 (c i) + yp4 (c (i + 1)) else 0) 16) : ∃ r1 r2 r3 r4 r5 r6 : Nat, x3 = (yp4 (c 0) + yp4 (c 1)) + 256 * r1 ∧ (r1 = (yp4 (c 2) + yp4 (c 3)) + 256 * r2 ∧ (r2 = (yp4 (c 4) + yp4 (c 5)) + 256 * r3 ∧ (r3 = (yp4 (c 6) + yp4 (c 7)) + 256 * r4 ∧ (r4 = (yp4 (c 8) + yp4 (c 9)) + 256 * r5 ∧ (r5 = (yp4 (c 10) + yp4 (c 11)) + 256 * r6 ∧ r6 = (yp4 (c 12) + yp4 (c 13)) + 256 * (yp4 (c 14) + yp4 (c 15))))))) := by
  generalize hf : (fun i => if i % 2 = 0 then yp4 (c i) + yp4 (c (i + 1)) else 0) = f at h
  have v : ∀ i, f i = if i % 2 = 0 then yp4 (c i) + yp4 (c (i + 1)) else 0 := fun i => by rw [← hf]
  have ev : ∀ i, i % 2 = 0 → f i = yp4 (c i) + yp4 (c (i + 1)) := fun i hi => by rw [v, if_pos hi]
  have od : ∀ i, i % 2 = 1 → f i = 0 := fun i hi => by rw [v, if_neg (by omega)]
  refine ⟨yhx (fun i => f (i + 2)) 14, yhx (fun i => f (i + 4)) 12, yhx (fun i => f (i + 6)) 10, yhx (fun i => f (i + 8)) 8, yhx (fun i => f (i + 10)) 6, yhx (fun i => f (i + 12)) 4, ?_, ?_, ?_, ?_, ?_, ?_, ?_⟩
  · rw [h, yhx_two 14 (od 1 rfl), ev 0 rfl]
  · rw [yhx_two (f := fun i => f (i + 2)) 12 (od 3 rfl)]
    exact congrArg (fun z => z + 256 * yhx (fun i => f (i + 4)) 12) (ev 2 rfl)
  · rw [yhx_two (f := fun i => f (i + 4)) 10 (od 5 rfl)]
    exact congrArg (fun z => z + 256 * yhx (fun i => f (i + 6)) 10) (ev 4 rfl)
  · rw [yhx_two (f := fun i => f (i + 6)) 8 (od 7 rfl)]
    exact congrArg (fun z => z + 256 * yhx (fun i => f (i + 8)) 8) (ev 6 rfl)
  · rw [yhx_two (f := fun i => f (i + 8)) 6 (od 9 rfl)]
    exact congrArg (fun z => z + 256 * yhx (fun i => f (i + 10)) 6) (ev 8 rfl)
  · rw [yhx_two (f := fun i => f (i + 10)) 4 (od 11 rfl)]
    exact congrArg (fun z => z + 256 * yhx (fun i => f (i + 12)) 4) (ev 10 rfl)
  · rw [yhx_two (f := fun i => f (i + 12)) 2 (od 13 rfl), yhx_two (f := fun i => f (i + 2 + 12)) 0 (od 15 rfl)]
    have e12 := ev 12 rfl
    have e14 := ev 14 rfl
    show f 12 + 256 * (f 14 + 256 * 0) = _
    rw [e12, e14]
    simp only [Nat.reduceAdd, Nat.mul_zero, Nat.add_zero]
set_option maxHeartbeats 400000 in
theorem ysw_2 {c : Nat → Nat} (hc : ∀ i, c i < 16) (hz : ∀ i, 16 ≤ i → c i = 0) {x1 : Nat} (hx1 : x1 = yhx c 16 - (yhx c 16 / 2 &&& 6148914691236517205)) : (x1 < 16 ^ 16 ∧ (yhx c 16 / 2 &&& 6148914691236517205) ≤ yhx c 16) ∧ (x1 &&& 3689348814741910323) + (x1 / 4 &&& 3689348814741910323) = yhx (fun i => yp4 (c i)) 16 := by
  have m5 : (6148914691236517205 : Nat) = yhx (fun _ => 5) 16 := by decide
  have m3 : (3689348814741910323 : Nat) = yhx (fun _ => 3) 16 := by decide
  have f1 : ∀ a, a < 16 → ∀ b, b < 2 → (a / 2 + 8 * b) &&& 5 ≤ a ∧ (a / 2 + 8 * b) &&& 5 = (a / 2) &&& 5 ∧ a / 2 + 8 * b < 16 := by decide
  have f2 : ∀ a, a < 16 → ∀ b, b < 4 → (a / 4 + 4 * b) &&& 3 = (a / 4) &&& 3 ∧ a / 4 + 4 * b < 16 := by decide
  have f3 : ∀ a, a < 16 → ((a - (a / 2 &&& 5)) &&& 3) + ((a - (a / 2 &&& 5)) / 4 &&& 3) = yp4 a := by decide
  have f4 : ∀ a, a < 16 → a / 2 &&& 5 ≤ a := by decide
  have e1 : yhx c 16 / 2 &&& 6148914691236517205 = yhx (fun i => c i / 2 &&& 5) 16 := by
    rw [m5, yhx_div (Or.inl rfl) 16 c (fun i _ => hc i) hz, yhx_and (c := c) (e := c) 16 _ _ (fun i _ => (f1 (c i) (hc i) (c (i + 1) % 2) (Nat.mod_lt _ (by decide))).2.2) (fun i _ => by decide)]
    exact yhx_congr _ _ _ (fun i _ => (f1 (c i) (hc i) (c (i + 1) % 2) (Nat.mod_lt _ (by decide))).2.1)
  obtain ⟨e2, e2'⟩ := yhx_sub 16 c (fun i => c i / 2 &&& 5) (fun i _ => f4 _ (hc i))
  rw [e1, e2] at hx1
  have hg : ∀ i, c i - (c i / 2 &&& 5) < 16 := fun i => by
    have := hc i
    omega
  have hgz : ∀ i, 16 ≤ i → c i - (c i / 2 &&& 5) = 0 := fun i hi => by
    rw [hz i hi, Nat.zero_sub]
  have l1 : x1 < 16 ^ 16 := by
    rw [hx1]
    exact yhx_lt 16 _ (fun i _ => hg i)
  refine ⟨⟨l1, by rw [e1]; exact e2'⟩, ?_⟩
  rw [hx1, m3, yhx_div (Or.inr rfl) 16 _ (fun i _ => hg i) hgz, yhx_and (c := c) (e := c) 16 _ _ (fun i _ => hg i) (fun i _ => by decide), yhx_and (c := c) (e := c) 16 _ _ (fun i _ => (f2 _ (hg i) _ (Nat.mod_lt _ (by decide))).2) (fun i _ => by decide), yhx_add]
  refine yhx_congr _ _ _ (fun i _ => ?_)
  rw [(f2 _ (hg i) _ (Nat.mod_lt _ (by decide))).1]
  exact f3 (c i) (hc i)
set_option maxHeartbeats 400000 in
theorem yswar {w x1 x2 x3 x4 x5 : Nat} (hw : w < 16 ^ 16) (h1 : x1 = w - (w / 2 &&& 6148914691236517205)) (h2 : x2 = (x1 &&& 3689348814741910323) + (x1 / 4 &&& 3689348814741910323)) (h3 : x3 = ((x2 + x2 / 16) &&& 1085102592571150095)) (h4 : x4 = x3 + x3 / 256) (h5 : x5 = x4 + x4 / 65536) :
    (x1 < 16 ^ 16 ∧ (w / 2 &&& 6148914691236517205) ≤ w) ∧ (x2 + x2 / 16 < 16 ^ 16 ∧ (x4 < 18446744073709551616 ∧ (x5 < 18446744073709551616 ∧ (x5 + x5 / 4294967296 < 18446744073709551616 ∧ (x5 + x5 / 4294967296) % 128 = ypc 64 w)))) := by
  obtain ⟨c, hc, hz, hwc⟩ : ∃ c : Nat → Nat, (∀ i, c i < 16) ∧ (∀ i, 16 ≤ i → c i = 0) ∧ w = yhx c 16 := by
    refine ⟨fun i => w / 16 ^ i % 16, fun i => Nat.mod_lt _ (by decide), fun i hi => ?_, (yhx_of 16 w hw).symm⟩
    have h1 : (16 : Nat) ^ 16 ≤ 16 ^ i := Nat.pow_le_pow_right (by decide) hi
    have h2 : w < 16 ^ i := Nat.lt_of_lt_of_le hw h1
    show w / 16 ^ i % 16 = 0
    rw [Nat.div_eq_of_lt h2]
  have hb : ∀ i, yp4 (c i) ≤ 4 := fun i => by
    unfold yp4
    omega
  rw [hwc] at h1 ⊢
  obtain ⟨a1, a2⟩ := ysw_2 hc hz h1
  rw [a2] at h2
  obtain ⟨b1, b2⟩ := ysw_3a hb h2
  rw [b2] at h3
  obtain ⟨r1, r2, r3, r4, r5, r6, k0, k1, k2, k3, k4, k5, k6⟩ := ysw_3b h3
  have q : ∀ i j, yp4 (c i) + yp4 (c j) ≤ 8 := fun i j => Nat.add_le_add (hb i) (hb j)
  obtain ⟨g1, g2, g3, g4⟩ := ysw_end (q 0 1) (q 2 3) (q 4 5) (q 6 7) (q 8 9) (q 10 11) (q 12 13) (q 14 15) k0 k1 k2 k3 k4 k5 k6 h4 h5
  refine ⟨a1, b1, g1, g2, g3, ?_⟩
  rw [g4, show (64 : Nat) = 4 * 16 from rfl, ypc_hx 16 c (fun i _ => hc i)]
  simp only [yfold, Nat.zero_add, Nat.reduceAdd, Nat.add_assoc]
theorem yL_bv (a : Nat) : (Int64.ofNat a).toBitVec = BitVec.ofNat 64 a := rfl
theorem yL_and (a b : Nat) : Int64.ofNat a &&& Int64.ofNat b = Int64.ofNat (a &&& b) := by
  apply Int64.toBitVec_inj.mp
  rw [Int64.toBitVec_and, yL_bv, yL_bv, yL_bv, BitVec.ofNat_and]
theorem yL_or (a b : Nat) : Int64.ofNat a ||| Int64.ofNat b = Int64.ofNat (a ||| b) := by
  apply Int64.toBitVec_inj.mp
  rw [Int64.toBitVec_or, yL_bv, yL_bv, yL_bv, BitVec.ofNat_or]
theorem yL_add (a b : Nat) : Int64.ofNat a + Int64.ofNat b = Int64.ofNat (a + b) := (Int64.ofNat_add a b).symm
theorem yL_sub {a b : Nat} (h : b ≤ a) : Int64.ofNat a - Int64.ofNat b = Int64.ofNat (a - b) := by
  have e : a = (a - b) + b := by omega
  conv => lhs; rw [e]
  rw [← yL_add, Int64.add_sub_cancel]
theorem yL_nat' {w : Nat} (hw : w < 18446744073709551616) : (Int64.ofNat w).toUInt64.toNat = w := by
  show (BitVec.ofNat 64 w).toNat = w
  rw [BitVec.toNat_ofNat, Nat.mod_eq_of_lt hw]
theorem yL_shr {a k : Nat} (ha : a < 18446744073709551616) (hk : k < 64) : ((Int64.ofNat a).toUInt64 >>> ((yI k).toInt64.toUInt64 &&& Int64.toUInt64 63)).toInt64 = Int64.ofNat (a / 2 ^ k) := by
  have e1 : ((yI k).toInt64.toUInt64 &&& Int64.toUInt64 63).toNat = k := by
    rw [UInt64.toNat_and, yI_L (by omega)]
    show k &&& (2 ^ 6 - 1) = k
    rw [Nat.and_two_pow_sub_one_eq_mod, Nat.mod_eq_of_lt (by omega)]
  have e2 : ((Int64.ofNat a).toUInt64 >>> ((yI k).toInt64.toUInt64 &&& Int64.toUInt64 63)).toNat = a / 2 ^ k := by
    rw [UInt64.toNat_shiftRight, e1, yL_nat' ha, Nat.mod_eq_of_lt hk, Nat.shiftRight_eq_div_pow]
  apply Int64.toBitVec_inj.mp
  apply BitVec.eq_of_toNat_eq
  have h3 : a / 2 ^ k ≤ a := Nat.div_le_self _ _
  show ((Int64.ofNat a).toUInt64 >>> ((yI k).toInt64.toUInt64 &&& Int64.toUInt64 63)).toNat = (Int64.ofNat (a / 2 ^ k)).toUInt64.toNat
  rw [e2, yL_nat' (by omega)]
theorem yL_I (a : Nat) : (Int64.ofNat a).toInt32 = yI a := by
  apply Int32.toBitVec_inj.mp
  rw [Int64.toBitVec_toInt32, yL_bv]
  apply BitVec.eq_of_toNat_eq
  show ((BitVec.ofNat 64 a).signExtend 32).toNat = (BitVec.ofNat 32 a).toNat
  rw [BitVec.signExtend_eq_setWidth_of_le _ (by decide), BitVec.toNat_setWidth, BitVec.toNat_ofNat, BitVec.toNat_ofNat]
  omega
theorem yI_127 (a : Nat) : yI a &&& 127 = yI (a % 128) := by
  apply Int32.toBitVec_inj.mp
  apply BitVec.eq_of_toNat_eq
  have h : (127 : Int32).toBitVec.toNat = 2 ^ 7 - 1 := rfl
  rw [Int32.toBitVec_and, BitVec.toNat_and, h, Nat.and_two_pow_sub_one_eq_mod]
  show (BitVec.ofNat 32 a).toNat % 128 = (BitVec.ofNat 32 (a % 128)).toNat
  rw [BitVec.toNat_ofNat, BitVec.toNat_ofNat]
  omega
theorem m_216 {d w : Nat} {σ : xS} {Q : xR → xS → Prop} (hw : w < 18446744073709551616) : Cl d 216 [.long (Int64.ofNat w)] σ Q ↔ Q (.inl (some (.int (yI (ypc 64 w))))) σ := by
  have h16 : (16 : Nat) ^ 16 = 18446744073709551616 := by decide
  obtain ⟨⟨a1, a2⟩, a3, a4, a5, a6, a7⟩ := yswar (w := w) (by omega) rfl rfl rfl rfl rfl
  rw [h16] at a1 a3
  generalize hx1 : w - (w / 2 &&& 6148914691236517205) = x1 at *
  generalize hx2 : (x1 &&& 3689348814741910323) + (x1 / 4 &&& 3689348814741910323) = x2 at *
  generalize hx3 : ((x2 + x2 / 16) &&& 1085102592571150095) = x3 at *
  generalize hx4 : x3 + x3 / 256 = x4 at *
  generalize hx5 : x4 + x4 / 65536 = x5 at *
  have b2 : x2 < 18446744073709551616 := by omega
  have b3 : x3 < 18446744073709551616 := by omega
  have s1 := yL_shr (k := 1) hw (by decide)
  have s2 := yL_shr (k := 2) a1 (by decide)
  have s4 := yL_shr (k := 4) b2 (by decide)
  have s8 := yL_shr (k := 8) b3 (by decide)
  have s16 := yL_shr (k := 16) a4 (by decide)
  have s32 := yL_shr (k := 32) a5 (by decide)
  have p1 : (2 : Nat) ^ 1 = 2 := rfl
  have p2 : (2 : Nat) ^ 2 = 4 := rfl
  have p4 : (2 : Nat) ^ 4 = 16 := rfl
  have p8 : (2 : Nat) ^ 8 = 256 := rfl
  have p16 : (2 : Nat) ^ 16 = 65536 := rfl
  have p32 : (2 : Nat) ^ 32 = 4294967296 := rfl
  rw [p1] at s1
  rw [p2] at s2
  rw [p4] at s4
  rw [p8] at s8
  rw [p16] at s16
  rw [p32] at s32
  have c1 : (1 : Int32) = yI 1 := rfl
  have c2 : (2 : Int32) = yI 2 := rfl
  have c4 : (4 : Int32) = yI 4 := rfl
  have c8 : (8 : Int32) = yI 8 := rfl
  have c16 : (16 : Int32) = yI 16 := rfl
  have c32 : (32 : Int32) = yI 32 := rfl
  have k5 : (6148914691236517205 : Int64) = Int64.ofNat 6148914691236517205 := rfl
  have k3 : (3689348814741910323 : Int64) = Int64.ofNat 3689348814741910323 := rfl
  have kf : (1085102592571150095 : Int64) = Int64.ofNat 1085102592571150095 := rfl
  show G d 216 0 [some (.long (Int64.ofNat w)), none] [] σ Q ↔ _
  simp only [s_216_0, s_216_1, s_216_2, s_216_3, s_216_4, s_216_5, s_216_6, s_216_7, s_216_8, s_216_9, s_216_10, s_216_11, s_216_12, s_216_13, s_216_14, s_216_15, s_216_16, s_216_17, s_216_18, s_216_19, s_216_20, s_216_21, s_216_22, s_216_23, s_216_24, s_216_25, s_216_26, s_216_27, s_216_28, s_216_29, s_216_30, s_216_31, s_216_32, s_216_33, s_216_34, s_216_35, s_216_36, s_216_37, s_216_38, s_216_39, s_216_40, s_216_41, s_216_42, s_216_43, s_216_44, s_216_45, s_216_46, s_216_47, s_216_48, c1, c2, c4, c8, c16, c32, s1, k5, yL_and, yL_sub a2, hx1, s2, k3, yL_add, hx2, s4, kf, hx3, s8, hx4, s16, hx5, s32, yL_I, yI_127, a7]

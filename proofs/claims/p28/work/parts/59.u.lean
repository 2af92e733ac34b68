/-! ===== the class's loop and the model's two read the same ===== -/
section
variable {n : Nat} {B : Nat → Nat} {fac : Nat → List Int32 → yPs}
theorem ythen_in {r : yPs} {f : Nat → List Int32 → yPs} {q' : Nat} {l' : List Int32} (h : ythen r f = .inr (q', l')) : ∃ q l, r = .inr (q, l) ∧ f q l = .inr (q', l') := by
  rcases r with e | ⟨q, l⟩
  · cases h
  · exact ⟨q, l, rfl, h⟩
theorem ythen_congr {r : yPs} {f g : Nat → List Int32 → yPs} (h : ∀ q l, r = .inr (q, l) → f q l = g q l) : ythen r f = ythen r g := by
  rcases r with e | ⟨q, l⟩
  · rfl
  · exact h q l rfl
theorem ymul_lt {q : Nat} (h : ymul n B q = true) : q < n := by
  unfold ymul at h
  rw [Bool.or_eq_true] at h
  rcases h with h | h <;> exact (of_decide_eq_true h).1
theorem yadd_lt {q : Nat} (h : yadd n B q = true) : q < n := by
  unfold yadd at h
  rw [Bool.or_eq_true] at h
  rcases h with h | h <;> exact (of_decide_eq_true h).1
theorem ymul_n {q : Nat} (h : n ≤ q) : ymul n B q = false := by
  cases hx : ymul n B q
  · rfl
  · have := ymul_lt hx
    omega
theorem yadd_n {q : Nat} (h : n ≤ q) : yadd n B q = false := by
  cases hx : yadd n B q
  · rfl
  · have := yadd_lt hx
    omega
theorem ytl_fwd (hf : yfwd n fac) : ∀ m q l q' l', q ≤ n → ytl n B fac m q l = .inr (q', l') → q ≤ q' ∧ q' ≤ n := by
  intro m
  induction m with
  | zero =>
    intro q l q' l' hq h
    cases h
    exact ⟨Nat.le_refl _, hq⟩
  | succ m ih =>
    intro q l q' l' hq h
    rw [ytl] at h
    cases hm : ymul n B q
    · rw [hm, if_neg (by decide)] at h
      cases h
      exact ⟨Nat.le_refl _, hq⟩
    · rw [hm, if_pos rfl] at h
      have hlt := ymul_lt hm
      have hs := ysk_le (n := n) (B := B) (m := q + 1) (by omega)
      obtain ⟨q1, l1, h1, h2⟩ := ythen_in h
      have h3 := hf _ _ _ _ hs.2 h1
      have h4 := ih _ _ _ _ h3.2 h2
      omega
theorem ytm_fwd (hf : yfwd n fac) {q : Nat} {l : List Int32} {q' : Nat} {l' : List Int32} (hq : q ≤ n) (h : ytm' n B fac q l = .inr (q', l')) : q < q' ∧ q' ≤ n := by
  obtain ⟨q1, l1, h1, h2⟩ := ythen_in h
  have h3 := hf _ _ _ _ hq h1
  have h4 := ytl_fwd hf _ _ _ _ _ h3.2 h2
  omega
theorem ysl_fwd (hf : yfwd n fac) : ∀ m q l q' l', q ≤ n → ysl n B fac m q l = .inr (q', l') → q ≤ q' ∧ q' ≤ n := by
  intro m
  induction m with
  | zero =>
    intro q l q' l' hq h
    cases h
    exact ⟨Nat.le_refl _, hq⟩
  | succ m ih =>
    intro q l q' l' hq h
    rw [ysl] at h
    cases hm : yadd n B q
    · rw [hm, if_neg (by decide)] at h
      cases h
      exact ⟨Nat.le_refl _, hq⟩
    · rw [hm, if_pos rfl] at h
      have hlt := yadd_lt hm
      have hs := ysk_le (n := n) (B := B) (m := q + 1) (by omega)
      obtain ⟨q1, l1, h1, h2⟩ := ythen_in h
      have h3 := ytm_fwd hf hs.2 h1
      have h4 := ih _ _ _ _ h3.2 h2
      omega
theorem ysu_fwd (hf : yfwd n fac) {q : Nat} {l : List Int32} {q' : Nat} {l' : List Int32} (hq : q ≤ n) (h : ysu n B fac q l = .inr (q', l')) : q < q' ∧ q' ≤ n := by
  obtain ⟨q1, l1, h1, h2⟩ := ythen_in h
  have h3 := ytm_fwd hf hq h1
  have h4 := ysl_fwd hf _ _ _ _ _ h3.2 h2
  omega
theorem yleaf_fwd : yfwd n (yleaf n B) := by
  intro q l q' l' hq h
  unfold yleaf at h
  cases h1 : yisw n B q 13
  · rw [h1, if_neg (by decide)] at h
    cases h2 : yisw n B q 7
    · rw [h2, if_neg (by decide)] at h
      cases h3 : ynum n B q 0 9999
      · rw [h3, if_neg (by decide)] at h
        cases h
      · rw [h3, if_pos rfl] at h
        cases h
        have hd : q < n ∧ ydg (B q) = true := by
          unfold ynum at h3
          rw [Bool.and_eq_true, Bool.and_eq_true, decide_eq_true_iff] at h3
          exact h3.1
        have g1 := yw_le (P := ydg) (B := B) (n - q) q
        have g2 : q < yw ydg B (n - q) q := by
          obtain ⟨m, hm⟩ : ∃ m, n - q = m + 1 := ⟨n - q - 1, by omega⟩
          rw [hm, yw, if_pos hd.2]
          have := yw_le (P := ydg) (B := B) m (q + 1)
          omega
        have g3 := ysk_le (n := n) (B := B) (m := yw ydg B (n - q) q) (by omega)
        omega
    · rw [h2, if_pos rfl] at h
      cases h
      have g1 := yisw_e (i := 7) (by decide) hq h2
      have g2 := yte_le (n := n) (B := B) hq
      have g3 := (yw_ok 7 (by decide)).1.1
      have g4 := ysk_le (n := n) (B := B) (m := q + ywl 7) (by omega)
      omega
  · rw [h1, if_pos rfl] at h
    cases h
    have g1 := yisw_e (i := 13) (by decide) hq h1
    have g2 := yte_le (n := n) (B := B) hq
    have g3 := (yw_ok 13 (by decide)).1.1
    have g4 := ysk_le (n := n) (B := B) (m := q + ywl 13) (by omega)
    omega
theorem yfac_fwd : ∀ k, yfwd n (yfac n B k) := by
  intro k
  induction k with
  | zero =>
    intro q l q' l' hq h
    rw [yfac] at h
    split at h
    · cases h
    · exact yleaf_fwd _ _ _ _ hq h
  | succ k ih =>
    intro q l q' l' hq h
    rw [yfac] at h
    split at h
    · rename_i hc
      have hlt := (of_decide_eq_true hc).1
      have hs := ysk_le (n := n) (B := B) (m := q + 1) (by omega)
      obtain ⟨q1, l1, h1, h2⟩ := ythen_in h
      have h3 := ysu_fwd ih hs.2 h1
      split at h2
      · rename_i hc2
        have hlt2 := (of_decide_eq_true hc2).1
        have hs2 := ysk_le (n := n) (B := B) (m := q1 + 1) (by omega)
        cases h2
        omega
      · cases h2
    · exact yleaf_fwd _ _ _ _ hq h
theorem ytl_fuel (hf : yfwd n fac) : ∀ m m' q l, q ≤ n → n - q ≤ m → n - q ≤ m' → ytl n B fac m q l = ytl n B fac m' q l := by
  intro m
  induction m with
  | zero =>
    intro m' q l hq h1 h2
    cases m' with
    | zero => rfl
    | succ m' => rw [ytl, ytl, ymul_n (by omega), if_neg (by decide)]
  | succ m ih =>
    intro m' q l hq h1 h2
    cases hm : ymul n B q
    · cases m' with
      | zero => rw [ytl, ytl, hm, if_neg (by decide)]
      | succ m' => rw [ytl, ytl, hm, if_neg (by decide), if_neg (by decide)]
    · have hlt := ymul_lt hm
      cases m' with
      | zero => omega
      | succ m' =>
        rw [ytl, ytl, hm, if_pos rfl, if_pos rfl]
        have hs := ysk_le (n := n) (B := B) (m := q + 1) (by omega)
        apply ythen_congr
        intro q1 l1 h3
        have h4 := hf _ _ _ _ hs.2 h3
        exact ih _ _ _ h4.2 (by omega) (by omega)
theorem ysl_fuel (hf : yfwd n fac) : ∀ m m' q l, q ≤ n → n - q ≤ m → n - q ≤ m' → ysl n B fac m q l = ysl n B fac m' q l := by
  intro m
  induction m with
  | zero =>
    intro m' q l hq h1 h2
    cases m' with
    | zero => rfl
    | succ m' => rw [ysl, ysl, yadd_n (by omega), if_neg (by decide)]
  | succ m ih =>
    intro m' q l hq h1 h2
    cases hm : yadd n B q
    · cases m' with
      | zero => rw [ysl, ysl, hm, if_neg (by decide)]
      | succ m' => rw [ysl, ysl, hm, if_neg (by decide), if_neg (by decide)]
    · have hlt := yadd_lt hm
      cases m' with
      | zero => omega
      | succ m' =>
        rw [ysl, ysl, hm, if_pos rfl, if_pos rfl]
        have hs := ysk_le (n := n) (B := B) (m := q + 1) (by omega)
        apply ythen_congr
        intro q1 l1 h3
        have h4 := ytm_fwd hf hs.2 h3
        exact ih _ _ _ h4.2 (by omega) (by omega)
theorem ycl_eq (hf : yfwd n fac) : ∀ m p q l, q ≤ n → n - q ≤ m → ycl' n B fac m p q l = ythen (ytl n B fac n q l) (fun q' l' => ysl n B fac n q' (l' ++ ypn p)) := by
  have stop : ∀ p q l, q ≤ n → ymul n B q = false → yadd n B q = false → ythen (ytl n B fac n q l) (fun q' l' => ysl n B fac n q' (l' ++ ypn p)) = .inr (q, l ++ ypn p) := by
    intro p q l hq h1 h2
    have e1 : ytl n B fac n q l = .inr (q, l) := by
      cases n with
      | zero => rfl
      | succ k => rw [ytl, h1, if_neg (by decide)]
    rw [e1, ythen_ok]
    cases n with
    | zero => rfl
    | succ k => rw [ysl, h2, if_neg (by decide)]
  intro m
  induction m with
  | zero =>
    intro p q l hq hm
    rw [ycl', stop p q l hq (ymul_n (by omega)) (yadd_n (by omega))]
  | succ m ih =>
    intro p q l hq hm
    rw [ycl']
    by_cases h0 : yopc n B q = 0
    · rw [if_pos h0, stop p q l hq (yopc_0.mp h0).1 (yopc_0.mp h0).2]
    · rw [if_neg h0]
      cases h1 : ymul n B q
      · rw [if_neg (by decide)]
        have h2 : yadd n B q = true := by
          cases hx : yadd n B q
          · exact absurd (yopc_0.mpr ⟨h1, hx⟩) h0
          · rfl
        have hlt := yadd_lt h2
        have hs := ysk_le (n := n) (B := B) (m := q + 1) (by omega)
        obtain ⟨k, hk⟩ : ∃ k, n = k + 1 := ⟨n - 1, by omega⟩
        have e1 : ytl n B fac n q l = .inr (q, l) := by
          have : ytl n B fac (k + 1) q l = .inr (q, l) := by rw [ytl, h1, if_neg (by decide)]
          rwa [← hk] at this
        have e2 : ∀ l, ysl n B fac n q l = ythen (ytm' n B fac (ysk n B (q + 1)) l) (fun q' l' => ysl n B fac k q' (l' ++ [yopc n B q])) := by
          intro l
          have : ysl n B fac (k + 1) q l = ythen (ytm' n B fac (ysk n B (q + 1)) l) (fun q' l' => ysl n B fac k q' (l' ++ [yopc n B q])) := by rw [ysl, h2, if_pos rfl]
          rwa [← hk] at this
        rw [e1, ythen_ok, e2]
        unfold ytm'
        rw [ythen_as]
        apply ythen_congr
        intro q1 l1 h3
        have h4 := hf _ _ _ _ hs.2 h3
        rw [ih _ _ _ h4.2 (by omega)]
        apply ythen_congr
        intro q2 l2 h5
        have h6 := ytl_fwd hf _ _ _ _ _ h4.2 h5
        have e3 : ypn (yopc n B q) = [yopc n B q] := by rw [ypn, if_neg h0]
        rw [e3]
        exact ysl_fuel hf _ _ _ _ h6.2 (by omega) (by omega)
      · rw [if_pos rfl]
        have hlt := ymul_lt h1
        have hs := ysk_le (n := n) (B := B) (m := q + 1) (by omega)
        obtain ⟨k, hk⟩ : ∃ k, n = k + 1 := ⟨n - 1, by omega⟩
        have e1 : ytl n B fac n q l = ythen (fac (ysk n B (q + 1)) l) (fun q' l' => ytl n B fac k q' (l' ++ [yopc n B q])) := by
          have : ytl n B fac (k + 1) q l = ythen (fac (ysk n B (q + 1)) l) (fun q' l' => ytl n B fac k q' (l' ++ [yopc n B q])) := by rw [ytl, h1, if_pos rfl]
          rwa [← hk] at this
        rw [e1, ythen_as]
        apply ythen_congr
        intro q1 l1 h3
        have h4 := hf _ _ _ _ hs.2 h3
        rw [ih _ _ _ h4.2 (by omega), ytl_fuel hf k n q1 _ h4.2 (by omega) (by omega)]
theorem ysu_eq (hf : yfwd n fac) {q : Nat} {l : List Int32} (hq : q ≤ n) : ysu' n B fac q l = ysu n B fac q l := by
  unfold ysu' ysu ytm'
  rw [ythen_as]
  apply ythen_congr
  intro q1 l1 h1
  have h2 := hf _ _ _ _ hq h1
  rw [ycl_eq hf _ _ _ _ h2.2 (by omega)]
  apply ythen_congr
  intro q2 l2 _
  have e : ypn 0 = [] := rfl
  rw [e, List.append_nil]
end

/-! ===== scripts as texts: what both sides read ===== -/
/-- kinds, numbers and ends of commands -/
abbrev yTb : Type := (Nat → Nat) × ((Nat → Nat → Nat) × (Nat → Nat))
/-- an error with its place, or where reading goes on, how many commands, and their tables -/
abbrev yPg : Type := (Int32 × Nat) ⊕ (Nat × (Nat × yTb))
def ynb (k : Nat) : Nat := if k = 0 then 5 else if k = 3 then 0 else 1
def ykh (n : Nat) (B : Nat → Nat) (q : Nat) : Nat :=
  if yisw n B q 6 = true then 0 else if yisw n B q 9 = true then 1 else if yisw n B q 7 = true then 2 else if yisw n B q 10 = true then 3 else if yisw n B q 2 = true then 4 else if yisw n B q 8 = true then 5 else 6
def ykw (k : Nat) : Nat := if k = 0 then 6 else if k = 1 then 9 else if k = 2 then 7 else if k = 3 then 10 else if k = 4 then 2 else 8
def ynlo (k : Nat) : Nat := if k = 5 then 1 else 0
def ynhi (k : Nat) : Nat := if k = 5 then 20 else 9999
def yup (f : Nat → Nat) (i v : Nat) : Nat → Nat := fun j => if j = i then v else f j
theorem yup_same {f : Nat → Nat} {i v : Nat} : yup f i v i = v := if_pos rfl
theorem yup_ne {f : Nat → Nat} {i j v : Nat} (h : ¬ j = i) : yup f i v j = f j := if_neg h
def yrn (n : Nat) (B : Nat → Nat) (lo hi : Nat) : Nat → Nat → Nat → (Nat → Nat) → (Int32 × Nat) ⊕ (Nat × (Nat → Nat))
  | 0, _, q, r => .inr (q, r)
  | m + 1, j, q, r => if ynum n B q lo hi = true then yrn n B lo hi m (j + 1) (ynq n B q) (yup r j (ynv n B q)) else .inl (yne n B q, q)
def yTk1 (T : yTb) (c k : Nat) (r : Nat → Nat) : yTb := (yup T.1 c k, ((fun i => if i = c then r else T.2.1 i), T.2.2))
def yTe (T : yTb) (c e : Nat) : yTb := (T.1, (T.2.1, yup T.2.2 c e))
def ypthen (r : yPg) (f : Nat → Nat → yTb → yPg) : yPg := match r with
  | .inl e => .inl e
  | .inr (q, (c, T)) => f q c T
/-- behind a repeat's number -/
def yrep (n : Nat) (B : Nat → Nat) (blk : Nat → Nat → yTb → yPg) (q c : Nat) (T : yTb) : yPg :=
  if yat n B q 40 = true then ypthen (blk (ysk n B (q + 1)) (c + 1) T) (fun q2 c2 T2 => if yat n B q2 41 = true then .inr (ysk n B (q2 + 1), (c2, yTe T2 c c2)) else .inl (-2, q2)) else .inl (-2, q)
def ycmd1 (n : Nat) (B : Nat → Nat) (blk : Nat → Nat → yTb → yPg) (k q c : Nat) (T : yTb) : yPg := match yrn n B (ynlo k) (ynhi k) (ynb k) 0 q (T.2.1 c) with
  | .inl e => .inl e
  | .inr (q1, r) => if k = 5 then yrep n B blk q1 c (yTk1 T c k r) else .inr (q1, (c + 1, yTe (yTk1 T c k r) c (c + 1)))
/-- a command, with the blocks of the next nesting given, if there may be one -/
def ycmd (n : Nat) (B : Nat → Nat) (blk : Nat → Nat → yTb → yPg) (al : Bool) (q c : Nat) (T : yTb) : yPg :=
  if ykh n B q = 6 then .inl (-2, q)
  else if 60 ≤ c then .inl (-5, q)
  else if ykh n B q = 5 ∧ al = false then .inl (-6, q)
  else ycmd1 n B blk (ykh n B q) (ysk n B (q + ywl (ykw (ykh n B q)))) c T
/-- a block: up to its end, or to a bracket -/
def ycms (n : Nat) (B : Nat → Nat) (cmd : Nat → Nat → yTb → yPg) (ins : Bool) : Nat → Nat → Nat → yTb → yPg
  | 0, q, c, T => .inr (q, (c, T))
  | m + 1, q, c, T => if n ≤ q ∨ (ins = true ∧ yat n B q 41 = true) then .inr (q, (c, T))
    else ypthen (cmd q c T) (fun q1 c1 T1 => if yat n B q1 59 = true then ycms n B cmd ins m (ysk n B (q1 + 1)) c1 T1 else .inl (-2, q1))
/-- a command with k nestings left -/
def ycmK (n : Nat) (B : Nat → Nat) : Nat → (Nat → Nat → yTb → yPg)
  | 0 => ycmd n B (fun q c T => .inr (q, (c, T))) false
  | k + 1 => ycmd n B (ycms n B (ycmK n B k) true n) true
def yT0 : yTb := (fun _ => 0, (fun _ _ => 0, fun _ => 0))
/-- a whole script, as the class reads it and as the model does -/
def yrunc (n : Nat) (B : Nat → Nat) : yPg := ypthen (ycms n B (ycmK n B 3) true n (ysk n B 0) 0 yT0) (fun q c T => if n ≤ q then .inr (q, (c, T)) else .inl (-2, q))
def yrun (n : Nat) (B : Nat → Nat) : yPg := ycms n B (ycmK n B 3) false n (ysk n B 0) 0 yT0
/-- well nested blocks -/
def ycok (W : Nat → Nat → Prop) (T : yTb) (i : Nat) : Prop := (T.1 i < 5 ∧ (T.2.2 i = i + 1 ∧ ∀ j, j < ynb (T.1 i) → T.2.1 i j < 10000)) ∨ (T.1 i = 5 ∧ ((1 ≤ T.2.1 i 0 ∧ T.2.1 i 0 ≤ 20) ∧ W (i + 1) (T.2.2 i)))
def ywfS (W : Nat → Nat → Prop) (T : yTb) : Nat → Nat → Nat → Prop
  | 0, lo, hi => lo = hi
  | m + 1, lo, hi => lo = hi ∨ ((lo < T.2.2 lo ∧ T.2.2 lo ≤ hi) ∧ (ycok W T lo ∧ ywfS W T m (T.2.2 lo) hi))
def ywfK (T : yTb) : Nat → Nat → Nat → Prop
  | 0 => fun lo hi => ∃ m, ywfS (fun _ _ => False) T m lo hi
  | k + 1 => fun lo hi => ∃ m, ywfS (ywfK T k) T m lo hi
abbrev yagr (lo hi : Nat) (T T' : yTb) : Prop := ∀ i, lo ≤ i → i < hi → T'.1 i = T.1 i ∧ (T'.2.1 i = T.2.1 i ∧ T'.2.2 i = T.2.2 i)
theorem ywfS_le {W : Nat → Nat → Prop} {T : yTb} : ∀ m lo hi, ywfS W T m lo hi → lo ≤ hi := by
  intro m
  induction m with
  | zero => intro lo hi h; exact Nat.le_of_eq h
  | succ m ih =>
    intro lo hi h
    rcases h with h | ⟨h1, h2, h3⟩
    · omega
    · omega
theorem ywfS_congr {W W' : Nat → Nat → Prop} {T T' : yTb} : ∀ m lo hi, yagr lo hi T T' → (∀ a b, lo ≤ a → b ≤ hi → W a b → W' a b) → ywfS W T m lo hi → ywfS W' T' m lo hi := by
  intro m
  induction m with
  | zero => intro lo hi _ _ h; exact h
  | succ m ih =>
    intro lo hi A HW h
    rcases h with h | ⟨h1, h2, h3⟩
    · exact Or.inl h
    · obtain ⟨a1, a2, a3⟩ := A lo (Nat.le_refl _) (by omega)
      refine Or.inr ⟨by rw [a3]; exact h1, ?_, ?_⟩
      · unfold ycok at h2 ⊢
        rw [a1, a2, a3]
        rcases h2 with h2 | ⟨b1, b2, b3⟩
        · exact Or.inl h2
        · exact Or.inr ⟨b1, b2, HW _ _ (by omega) h1.2 b3⟩
      · rw [a3]
        exact ih _ _ (fun i g1 g2 => A i (by omega) g2) (fun a b g1 g2 => HW a b (by omega) g2) h3
theorem ywfK_congr {T T' : yTb} : ∀ k lo hi, yagr lo hi T T' → ywfK T k lo hi → ywfK T' k lo hi := by
  intro k
  induction k with
  | zero =>
    intro lo hi A h
    obtain ⟨m, h⟩ := h
    exact ⟨m, ywfS_congr _ _ _ A (fun _ _ _ _ h => h) h⟩
  | succ k ih =>
    intro lo hi A h
    obtain ⟨m, h⟩ := h
    exact ⟨m, ywfS_congr _ _ _ A (fun a b g1 g2 h => ih a b (fun i c1 c2 => A i (by omega) (by omega)) h) h⟩
/-- a block and one behind it -/
theorem ywfS_app {W : Nat → Nat → Prop} {T : yTb} : ∀ m m' lo mid hi, mid ≤ hi → ywfS W T m lo mid → ywfS W T m' mid hi → ∃ m'', ywfS W T m'' lo hi := by
  intro m
  induction m with
  | zero =>
    intro m' lo mid hi _ h h'
    have e : lo = mid := h
    subst e
    exact ⟨m', h'⟩
  | succ m ih =>
    intro m' lo mid hi hm h h'
    rcases h with h | ⟨h1, h2, h3⟩
    · subst h
      exact ⟨m', h'⟩
    · obtain ⟨m'', h4⟩ := ih m' _ _ _ hm h3 h'
      exact ⟨m'' + 1, Or.inr ⟨⟨h1.1, by omega⟩, h2, h4⟩⟩
theorem yagr_tr {T T' T'' : yTb} {lo hi : Nat} (h : yagr lo hi T T') (h' : yagr lo hi T' T'') : yagr lo hi T T'' := fun i g1 g2 => by
  obtain ⟨a1, a2, a3⟩ := h i g1 g2
  obtain ⟨b1, b2, b3⟩ := h' i g1 g2
  exact ⟨b1.trans a1, b2.trans a2, b3.trans a3⟩
/-- what a reader of commands keeps: W is what its blocks are -/
abbrev ygood (n : Nat) (W : yTb → Nat → Nat → Prop) (r : Nat → Nat → yTb → yPg) : Prop := ∀ q c T q' c' T', q ≤ n → c ≤ 60 → r q c T = .inr (q', (c', T')) → ((q ≤ q' ∧ q' ≤ n) ∧ (c ≤ c' ∧ c' ≤ 60)) ∧ (yagr 0 c T T' ∧ W T' c c')
section
variable {n : Nat} {B : Nat → Nat}
theorem ypthen_in {r : yPg} {f : Nat → Nat → yTb → yPg} {z : Nat × (Nat × yTb)} (h : ypthen r f = .inr z) : ∃ q c T, r = .inr (q, (c, T)) ∧ f q c T = .inr z := by
  rcases r with e | ⟨q, c, T⟩
  · cases h
  · exact ⟨q, c, T, rfl, h⟩
theorem yrn_ok {lo hi : Nat} : ∀ m j q r q' r', q ≤ n → yrn n B lo hi m j q r = .inr (q', r') → (q ≤ q' ∧ q' ≤ n) ∧ ∀ i, j ≤ i → i < j + m → lo ≤ r' i ∧ r' i ≤ hi := by
  have keep : ∀ m j q r q' r', yrn n B lo hi m j q r = .inr (q', r') → ∀ i, i < j → r' i = r i := by
    intro m
    induction m with
    | zero =>
      intro j q r q' r' h i hi
      cases h
      rfl
    | succ m ih =>
      intro j q r q' r' h i hi
      rw [yrn] at h
      split at h
      · rw [ih _ _ _ _ _ h i (by omega)]
        exact if_neg (by omega)
      · cases h
  intro m
  induction m with
  | zero =>
    intro j q r q' r' hq h
    cases h
    exact ⟨⟨Nat.le_refl _, hq⟩, fun i h1 h2 => by omega⟩
  | succ m ih =>
    intro j q r q' r' hq h
    rw [yrn] at h
    split at h
    · rename_i h1
      have hv := ynv_lt h1
      have hg := ynq_go h1
      obtain ⟨h2, h3⟩ := ih _ _ _ _ _ hg.2 h
      refine ⟨by omega, fun i g1 g2 => ?_⟩
      by_cases e : i = j
      · subst e
        have hk : r' i = ynv n B q := (keep _ _ _ _ _ _ h i (by omega)).trans yup_same
        rw [hk]
        exact hv.2
      · exact h3 i (by omega) (by omega)
    · cases h
theorem ykh_w {q : Nat} (h : ¬ ykh n B q = 6) : ykh n B q < 6 ∧ (ykw (ykh n B q) < 14 ∧ yisw n B q (ykw (ykh n B q)) = true) := by
  unfold ykh at h ⊢
  split
  · rename_i h1; exact ⟨by decide, by decide, h1⟩
  · split
    · rename_i h1; exact ⟨by decide, by decide, h1⟩
    · split
      · rename_i h1; exact ⟨by decide, by decide, h1⟩
      · split
        · rename_i h1; exact ⟨by decide, by decide, h1⟩
        · split
          · rename_i h1; exact ⟨by decide, by decide, h1⟩
          · split
            · rename_i h1; exact ⟨by decide, by decide, h1⟩
            · rename_i h1 h2 h3 h4 h5 h6
              rw [if_neg h1, if_neg h2, if_neg h3, if_neg h4, if_neg h5, if_neg h6] at h
              exact absurd rfl h
/-- a command is one step of a block -/
theorem ycmd_ok {blk : Nat → Nat → yTb → yPg} {al : Bool} {W : yTb → Nat → Nat → Prop} (hW : ∀ T T' lo hi, yagr lo hi T T' → W T lo hi → W T' lo hi) (hb : al = true → ygood n W blk) {q c : Nat} {T : yTb} {q' c' : Nat} {T' : yTb} (hq : q ≤ n) (hc : c ≤ 60) (h : ycmd n B blk al q c T = .inr (q', (c', T'))) : ((q < q' ∧ q' ≤ n) ∧ (c < c' ∧ c' ≤ 60)) ∧ (yagr 0 c T T' ∧ (T'.2.2 c = c' ∧ ycok (W T') T' c)) := by
  unfold ycmd at h
  by_cases h6 : ykh n B q = 6
  · rw [if_pos h6] at h
    cases h
  · rw [if_neg h6] at h
    obtain ⟨k6, hw, hisw⟩ := ykh_w h6
    have hg := yisw_go hw hq hisw
    by_cases h60 : 60 ≤ c
    · rw [if_pos h60] at h
      cases h
    · rw [if_neg h60] at h
      by_cases hal : ykh n B q = 5 ∧ al = false
      · rw [if_pos hal] at h
        cases h
      · rw [if_neg hal] at h
        generalize ysk n B (q + ywl (ykw (ykh n B q))) = q0 at *
        generalize ykh n B q = k at *
        unfold ycmd1 at h
        cases hr : yrn n B (ynlo k) (ynhi k) (ynb k) 0 q0 (T.2.1 c) with
        | inl e => rw [hr] at h; cases h
        | inr z =>
          obtain ⟨q1, r⟩ := z
          rw [hr] at h
          have hrn := yrn_ok _ _ _ _ _ _ hg.2 hr
          have h' : (if k = 5 then yrep n B blk q1 c (yTk1 T c k r) else .inr (q1, (c + 1, yTe (yTk1 T c k r) c (c + 1)))) = (.inr (q', (c', T')) : yPg) := h
          have A1 : yagr 0 c T (yTk1 T c k r) := fun i _ g2 => ⟨if_neg (by omega), if_neg (by omega), rfl⟩
          by_cases h5 : k = 5
          · rw [if_pos h5] at h'
            have hal' : al = true := by
              cases al
              · exact absurd ⟨h5, rfl⟩ hal
              · rfl
            unfold yrep at h'
            split at h'
            · rename_i h40
              have g40 := yat_go h40
              obtain ⟨q2, c2, T2, e1, e2⟩ := ypthen_in h'
              obtain ⟨⟨b1, b2⟩, b3, b4⟩ := hb hal' _ _ _ _ _ _ g40.2 (by omega) e1
              split at e2
              · rename_i h41
                have g41 := yat_go h41
                cases e2
                have hK : T2.1 c = 5 := by
                  rw [(b3 c (Nat.zero_le _) (by omega)).1, ← h5]
                  exact if_pos rfl
                have hN : T2.2.1 c = r := by
                  rw [(b3 c (Nat.zero_le _) (by omega)).2.1]
                  exact if_pos rfl
                have hE : (yTe T2 c c').2.2 c = c' := if_pos rfl
                refine ⟨⟨by omega, by omega⟩, ?_, hE, Or.inr ⟨hK, ?_, ?_⟩⟩
                · refine yagr_tr A1 (yagr_tr (fun i g1 g2 => b3 i g1 (by omega)) (fun i g1 g2 => ⟨rfl, rfl, if_neg (by omega)⟩))
                · show (1 ≤ T2.2.1 c 0 ∧ T2.2.1 c 0 ≤ 20)
                  rw [hN]
                  subst h5
                  exact hrn.2 0 (Nat.le_refl _) (by decide)
                · rw [hE]
                  exact hW T2 (yTe T2 c c') _ _ (fun i g1 g2 => ⟨rfl, rfl, yup_ne (by omega)⟩) b4
              · cases e2
            · cases h'
          · rw [if_neg h5] at h'
            cases h'
            have hE : (yTe (yTk1 T c k r) c (c + 1)).2.2 c = c + 1 := if_pos rfl
            have hK : (yTe (yTk1 T c k r) c (c + 1)).1 c = k := if_pos rfl
            have hN : (yTe (yTk1 T c k r) c (c + 1)).2.1 c = r := if_pos rfl
            refine ⟨⟨by omega, by omega⟩, yagr_tr A1 (fun i g1 g2 => ⟨rfl, rfl, if_neg (by omega)⟩), hE, Or.inl ⟨by rw [hK]; omega, hE, fun j hj => ?_⟩⟩
            rw [hK] at hj
            rw [hN]
            have := hrn.2 j (Nat.zero_le _) (by omega)
            unfold ynhi at this
            rw [if_neg h5] at this
            omega
theorem ycms_ok {cmd : Nat → Nat → yTb → yPg} {ins : Bool} {W : yTb → Nat → Nat → Prop} (hW : ∀ T T' lo hi, yagr lo hi T T' → W T lo hi → W T' lo hi) (hcmd : ∀ q c T q' c' T', q ≤ n → c ≤ 60 → cmd q c T = .inr (q', (c', T')) → ((q < q' ∧ q' ≤ n) ∧ (c < c' ∧ c' ≤ 60)) ∧ (yagr 0 c T T' ∧ (T'.2.2 c = c' ∧ ycok (W T') T' c))) : ∀ m, ygood n (fun T lo hi => ∃ m, ywfS (W T) T m lo hi) (ycms n B cmd ins m) := by
  intro m
  induction m with
  | zero =>
    intro q c T q' c' T' hq hc h
    cases h
    exact ⟨⟨⟨Nat.le_refl _, hq⟩, Nat.le_refl _, hc⟩, fun i _ _ => ⟨rfl, rfl, rfl⟩, 0, rfl⟩
  | succ m ih =>
    intro q c T q' c' T' hq hc h
    rw [ycms] at h
    split at h
    · cases h
      exact ⟨⟨⟨Nat.le_refl _, hq⟩, Nat.le_refl _, hc⟩, fun i _ _ => ⟨rfl, rfl, rfl⟩, 0, rfl⟩
    · obtain ⟨q1, c1, T1, e1, e2⟩ := ypthen_in h
      obtain ⟨⟨a1, a2⟩, a3, a4, a5⟩ := hcmd _ _ _ _ _ _ hq hc e1
      split at e2
      · rename_i h59
        have g59 := yat_go h59
        obtain ⟨⟨b1, b2⟩, b3, m', b4⟩ := ih _ _ _ _ _ _ g59.2 a2.2 e2
        obtain ⟨d1, d2, d3⟩ := b3 c (Nat.zero_le _) a2.1
        refine ⟨⟨⟨by omega, b1.2⟩, by omega, b2.2⟩, yagr_tr a3 (fun i g1 g2 => b3 i g1 (by omega)), m' + 1, Or.inr ⟨⟨by rw [d3, a4]; exact a2.1, by rw [d3, a4]; exact b2.1⟩, ?_, ?_⟩⟩
        · unfold ycok at a5 ⊢
          rw [d1, d2, d3]
          rcases a5 with a5 | ⟨f1, f2, f3⟩
          · exact Or.inl a5
          · refine Or.inr ⟨f1, f2, hW _ _ _ _ (fun i g1 g2 => b3 i (Nat.zero_le _) (by rw [a4] at g2; exact g2)) f3⟩
        · rw [d3, a4]
          exact b4
      · cases e2
/-- commands and blocks of every nesting -/
def ywfC (k : Nat) (T : yTb) : Nat → Nat → Prop := match k with
  | 0 => fun _ _ => False
  | k + 1 => ywfK T k
theorem ywfK_S {k : Nat} {T : yTb} {lo hi : Nat} : ywfK T k lo hi ↔ ∃ m, ywfS (ywfC k T) T m lo hi := by
  cases k <;> exact Iff.rfl
theorem ycmK_ok : ∀ k q c T q' c' T', q ≤ n → c ≤ 60 → ycmK n B k q c T = .inr (q', (c', T')) → ((q < q' ∧ q' ≤ n) ∧ (c < c' ∧ c' ≤ 60)) ∧ (yagr 0 c T T' ∧ (T'.2.2 c = c' ∧ ycok (ywfC k T') T' c)) := by
  intro k
  induction k with
  | zero =>
    intro q c T q' c' T' hq hc h
    exact ycmd_ok (W := fun T => ywfC 0 T) (fun _ _ _ _ _ h => h) (fun h => by cases h) hq hc h
  | succ k ih =>
    intro q c T q' c' T' hq hc h
    refine ycmd_ok (W := fun T => ywfC (k + 1) T) (fun T T' lo hi A h => ywfK_congr k lo hi A h) (fun _ => ?_) hq hc h
    have H := ycms_ok (n := n) (B := B) (ins := true) (W := fun T => ywfC k T) (fun T T' lo hi A h => by
      cases k with
      | zero => exact h
      | succ k => exact ywfK_congr k lo hi A h) ih n
    intro q c T q' c' T' hq hc h
    obtain ⟨h1, h2, h3⟩ := H q c T q' c' T' hq hc h
    exact ⟨h1, h2, ywfK_S.mpr h3⟩
theorem yblk_ok {ins : Bool} (k m : Nat) : ygood n (fun T lo hi => ywfK T k lo hi) (ycms n B (ycmK n B k) ins m) := by
  have H := ycms_ok (n := n) (B := B) (cmd := ycmK n B k) (ins := ins) (W := fun T => ywfC k T) (fun T T' lo hi A h => by
      cases k with
      | zero => exact h
      | succ k => exact ywfK_congr k lo hi A h) (ycmK_ok k) m
  intro q c T q' c' T' hq hc h
  obtain ⟨h1, h2, h3⟩ := H q c T q' c' T' hq hc h
  exact ⟨h1, h2, ywfK_S.mpr h3⟩
/-- both ways are the same -/
theorem yrun_eq : yrunc n B = yrun n B := by
  have key : ∀ m q c T, q ≤ n → n - q ≤ m → c ≤ 60 → ypthen (ycms n B (ycmK n B 3) true m q c T) (fun q c T => if n ≤ q then .inr (q, (c, T)) else .inl (-2, q)) = ycms n B (ycmK n B 3) false m q c T := by
    intro m
    induction m with
    | zero =>
      intro q c T hq hm _
      show (if n ≤ q then _ else _) = _
      rw [if_pos (by omega)]
      rfl
    | succ m ih =>
      intro q c T hq hm hc
      rw [ycms, ycms]
      by_cases hn : n ≤ q
      · rw [if_pos (Or.inl hn), if_pos (Or.inl hn)]
        show (if n ≤ q then _ else _) = _
        rw [if_pos hn]
      · have e2 : ¬ (n ≤ q ∨ (false = true ∧ yat n B q 41 = true)) := fun h => h.elim hn (fun h => by cases h.1)
        rw [if_neg e2]
        by_cases h41 : yat n B q 41 = true
        · rw [if_pos (Or.inr ⟨rfl, h41⟩)]
          have k6 : ykh n B q = 6 := by
            by_cases h6 : ykh n B q = 6
            · exact h6
            · obtain ⟨-, hw, hi⟩ := ykh_w h6
              have hk := ((yisw_c hw hq).mp hi).1
              have e := of_decide_eq_true h41
              rw [ytkind, if_neg hn, e.2] at hk
              exact absurd hk (by decide)
          have e3 : ycmK n B 3 q c T = .inl (-2, q) := by
            show ycmd n B _ true q c T = _
            unfold ycmd
            rw [if_pos k6]
          rw [e3]
          show (if n ≤ q then _ else _) = _
          rw [if_neg hn]
          rfl
        · rw [if_neg (fun h => h.elim hn (fun h => h41 h.2))]
          cases hr : ycmK n B 3 q c T with
          | inl e => rfl
          | inr z =>
            obtain ⟨q1, c1, T1⟩ := z
            have hok := ycmK_ok 3 _ _ _ _ _ _ hq hc hr
            show ypthen (if _ then _ else _) _ = if _ then _ else _
            by_cases h59 : yat n B q1 59 = true
            · rw [if_pos h59, if_pos h59]
              have g := yat_go h59
              exact ih _ _ _ g.2 (by omega) hok.1.2.2
            · rw [if_neg h59, if_neg h59]
              rfl
  exact key n (ysk n B 0) 0 yT0 (ysk_le (Nat.zero_le _)).2 (by omega) (by decide)
theorem yrun_ok {q c : Nat} {T : yTb} (h : yrun n B = .inr (q, (c, T))) : c ≤ 60 ∧ ywfK T 3 0 c := by
  obtain ⟨h1, h2, h3⟩ := yblk_ok 3 n _ _ _ _ _ _ (ysk_le (Nat.zero_le _)).2 (by decide) h
  exact ⟨h1.2.2, h3⟩
end

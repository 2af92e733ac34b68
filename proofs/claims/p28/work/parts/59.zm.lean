/-! ===== setups as texts: what both sides read ===== -/
abbrev yU : Type := yD × (Nat × (Bool × Bool))
/-- an error with its place, or where reading goes on and the strip, the feeds told, level and curve told -/
abbrev yQs : Type := (Int32 × Nat) ⊕ (Nat × yU)
abbrev ynv (n : Nat) (B : Nat → Nat) (q : Nat) : Nat := yvm B (n - q) q 0
abbrev ynq (n : Nat) (B : Nat → Nat) (q : Nat) : Nat := ysk n B (yw ydg B (n - q) q)
abbrev yne (n : Nat) (B : Nat → Nat) (q : Nat) : Int32 := if q < n ∧ ydg (B q) = true then -3 else -2
def yqthen (r : yQs) (f : Nat → yU → yQs) : yQs := match r with
  | .inl e => .inl e
  | .inr (q, U) => f q U
def yrfeed (n : Nat) (B : Nat → Nat) (q : Nat) (U : yU) : yQs :=
  if ynum n B q 0 (U.1.n - 1) = true then
    if U.2.1.testBit (ynv n B q) = true then .inl (-4, q)
    else if ¬ ynv n B q = 0 ∧ 6 ≤ U.1.f then .inl (-5, q)
    else if ynum n B (ynq n B q) 0 9999 = true then .inr (ynq n B (ynq n B q), (yaddf U.1 (ynv n B q) (ynv n B (ynq n B q)), (U.2.1 ||| 2 ^ ynv n B q, U.2.2)))
    else .inl (yne n B (ynq n B q), ynq n B q)
  else .inl (yne n B q, q)
def yrstu (n : Nat) (B : Nat → Nat) (q : Nat) (U : yU) (p : Nat) : yQs :=
  if ynum n B q 2 9 = true then .inr (ynq n B q, (ykp U.1 p 3 (yI (ynv n B q)), U.2)) else .inl (yne n B q, q)
def yrkind (n : Nat) (B : Nat → Nat) (q : Nat) (U : yU) (p : Nat) : yQs :=
  if yisw n B q 4 = true then .inr (ysk n B (q + ywl 4), (ykp U.1 p 1 0, U.2))
  else if yisw n B q 1 = true then .inr (ysk n B (q + ywl 1), (ykp U.1 p 2 0, U.2))
  else if yisw n B q 12 = true then yrstu n B (ysk n B (q + ywl 12)) U p
  else .inl (-2, q)
def yrbad1 (n : Nat) (B : Nat → Nat) (q : Nat) (U : yU) : yQs :=
  if ynum n B q 0 (U.1.n - 1) = true then
    if U.1.kd (ynv n B q) = 0 then yrkind n B (ynq n B q) U (ynv n B q) else .inl (-4, q)
  else .inl (yne n B q, q)
def yrbad (n : Nat) (B : Nat → Nat) (q : Nat) (U : yU) : yQs :=
  if 10 ≤ ybad U.1.kd U.1.n then .inl (-5, q) else yrbad1 n B (ysk n B (q + ywl 0)) U
def yrch (n : Nat) (B : Nat → Nat) : Nat → Nat → Nat → (Int32 × Nat) ⊕ (Nat × Nat)
  | 0, q, c => .inr (q, c)
  | m + 1, q, c => if ynum n B q 0 255 = true then yrch n B m (ynq n B q) (256 * c + ynv n B q) else .inl (yne n B q, q)
def ypaint (D : yD) (f p c : Nat) : yD := (ypt (yI c) (p + 1 - f) f 0 D).2
def yrpt (r : (Int32 × Nat) ⊕ (Nat × Nat)) (U : yU) (f p : Nat) : yQs := match r with
  | .inl e => .inl e
  | .inr (q, c) => .inr (q, (ypaint U.1 f p c, U.2))
def yrfill (n : Nat) (B : Nat → Nat) (q : Nat) (U : yU) : yQs :=
  if ynum n B q 0 (U.1.n - 1) = true then
    if ynum n B (ynq n B q) (ynv n B q) (U.1.n - 1) = true then yrpt (yrch n B 3 (ynq n B (ynq n B q)) 0) U (ynv n B q) (ynv n B (ynq n B q))
    else .inl (yne n B (ynq n B q), ynq n B q)
  else .inl (yne n B q, q)
def yrlev (n : Nat) (B : Nat → Nat) (q : Nat) (U : yU) : yQs :=
  if ynum n B q 0 255 = true then .inr (ynq n B q, (U.1.slv (yI (ynv n B q)), (U.2.1, (true, U.2.2.2)))) else .inl (yne n B q, q)
def yrcur (n : Nat) (B : Nat → Nat) (q : Nat) (U : yU) : yQs := match ysum' n B q with
  | .inl e => .inl e
  | .inr (q', l) => .inr (q', (U.1.scv l.length (yg l), (U.2.1, (U.2.2.1, true))))
def yrst (n : Nat) (B : Nat → Nat) (q : Nat) (U : yU) : yQs :=
  if yisw n B q 5 = true then yrfeed n B (ysk n B (q + ywl 5)) U
  else if yisw n B q 0 = true then yrbad n B q U
  else if yisw n B q 6 = true then yrfill n B (ysk n B (q + ywl 6)) U
  else if yisw n B q 7 = true then (if U.2.2.1 = true then .inl (-2, q) else yrlev n B (ysk n B (q + ywl 7)) U)
  else if yisw n B q 3 = true then (if U.2.2.2 = true then .inl (-2, q) else yrcur n B (ysk n B (q + ywl 3)) U)
  else .inl (-2, q)
def yrend (n : Nat) (B : Nat → Nat) (q : Nat) (U : yU) : yQs := if yat n B q 59 = true then .inr (ysk n B (q + 1), U) else .inl (-2, q)
def yrst' (n : Nat) (B : Nat → Nat) (q : Nat) (U : yU) : yQs := yqthen (yrst n B q U) (yrend n B)
def yrl (n : Nat) (B : Nat → Nat) : Nat → Nat → yU → yQs
  | 0, q, U => .inr (q, U)
  | m + 1, q, U => if n ≤ q then .inr (q, U) else yqthen (yrst' n B q U) (yrl n B m)
/-- a whole setup: its head, and what follows -/
def yrh1 (n : Nat) (B : Nat → Nat) (q : Nat) : yQs :=
  if ynum n B q 1 40 = true then
    if ynum n B (ynq n B q) 1 100 = true then yrend n B (ynq n B (ynq n B q)) (yD0 (ynv n B q) (ynv n B (ynq n B q)), (0, (false, false))) else .inl (yne n B (ynq n B q), ynq n B q)
  else .inl (yne n B q, q)
def yrhd (n : Nat) (B : Nat → Nat) : yQs :=
  if yisw n B (ysk n B 0) 11 = true then yrh1 n B (ysk n B (ysk n B 0 + ywl 11)) else .inl (-2, ysk n B 0)
def yrset (n : Nat) (B : Nat → Nat) : yQs := yqthen (yrhd n B) (yrl n B n)
abbrev yUk (U : yU) : Prop := yDok U.1 ∧ ((U.2.1 < 2 ^ 40 ∧ ∀ g, 1 ≤ g → g < U.1.f → U.2.1.testBit (U.1.fp g) = true) ∧ (U.2.2.2 = false → U.1.cn = 0))
section
variable {n : Nat} {B : Nat → Nat}
theorem ynq_go {q lo hi : Nat} (h : ynum n B q lo hi = true) : q < ynq n B q ∧ ynq n B q ≤ n := by
  have hd : q < n ∧ ydg (B q) = true := by
    unfold ynum at h
    rw [Bool.and_eq_true, Bool.and_eq_true, decide_eq_true_iff] at h
    exact h.1
  have g1 := yw_le (P := ydg) (B := B) (n - q) q
  have g2 : q < yw ydg B (n - q) q := by
    obtain ⟨m, hm⟩ : ∃ m, n - q = m + 1 := ⟨n - q - 1, by omega⟩
    rw [hm, yw, if_pos hd.2]
    have := yw_le (P := ydg) (B := B) m (q + 1)
    omega
  have g3 := ysk_le (n := n) (B := B) (m := yw ydg B (n - q) q) (by omega)
  show q < ysk n B (yw ydg B (n - q) q) ∧ ysk n B (yw ydg B (n - q) q) ≤ n
  exact ⟨by omega, g3.2⟩
theorem ynv_lt {q lo hi : Nat} (h : ynum n B q lo hi = true) : q < n ∧ (lo ≤ ynv n B q ∧ ynv n B q ≤ hi) := ynum_lt h
theorem yisw_go {q i : Nat} (hi : i < 14) (hq : q ≤ n) (h : yisw n B q i = true) : q < ysk n B (q + ywl i) ∧ ysk n B (q + ywl i) ≤ n := by
  have g1 := yisw_e hi hq h
  have g2 := yte_le (n := n) (B := B) hq
  have g3 := (yw_ok i hi).1.1
  have g4 := ysk_le (n := n) (B := B) (m := q + ywl i) (by omega)
  omega
theorem yat_go {q c : Nat} (h : yat n B q c = true) : q < ysk n B (q + 1) ∧ ysk n B (q + 1) ≤ n := by
  have h1 := (of_decide_eq_true h).1
  have g4 := ysk_le (n := n) (B := B) (m := q + 1) (by omega)
  omega
theorem yqthen_in {r : yQs} {f : Nat → yU → yQs} {q' : Nat} {U' : yU} (h : yqthen r f = .inr (q', U')) : ∃ q U, r = .inr (q, U) ∧ f q U = .inr (q', U') := by
  rcases r with e | ⟨q, U⟩
  · cases h
  · exact ⟨q, U, rfl, h⟩
theorem yfd_no {U : yU} (K : yUk U) {p : Nat} (hp : ¬ p = 0) (h : U.2.1.testBit p = false) : ynof U.1 p := by
  intro g hg e
  by_cases g0 : g = 0
  · rw [g0, K.1.fp0] at e
    exact hp e.symm
  · have := K.2.1.2 g (by omega) hg
    rw [e, h] at this
    cases this
theorem yrfeed_ok {q q' : Nat} {U U' : yU} (K : yUk U) (h : yrfeed n B q U = .inr (q', U')) : yUk U' ∧ (q < q' ∧ q' ≤ n) := by
  have hn1 := K.1.n1
  have hn40 := K.1.n40
  unfold yrfeed at h
  split at h
  · rename_i h1
    have hv := ynv_lt h1
    have g1 := ynq_go h1
    split at h
    · cases h
    · rename_i h2
      have h2' : U.2.1.testBit (ynv n B q) = false := by
        cases hx : U.2.1.testBit (ynv n B q)
        · rfl
        · exact absurd hx h2
      split at h
      · cases h
      · rename_i h3
        split at h
        · rename_i h4
          have hv2 := ynv_lt h4
          have g2 := ynq_go h4
          have hadd : ¬ ynv n B q = 0 → ynof U.1 (ynv n B q) ∧ U.1.f < 6 := fun e => ⟨yfd_no K e h2', by
            have : ¬ 6 ≤ U.1.f := fun h6 => h3 ⟨e, h6⟩
            omega⟩
          have hok := yaddf_ok K.1 (p := ynv n B q) (l := ynv n B (ynq n B q)) (by omega) (by omega) hadd
          obtain ⟨k0, ⟨kf, kg⟩, kc⟩ := K
          have hpn : ynv n B q < U.1.n := by omega
          generalize ynv n B q = p at *
          generalize ynv n B (ynq n B q) = l at *
          cases h
          refine ⟨⟨hok, ⟨Nat.or_lt_two_pow kf (Nat.pow_lt_pow_right (by decide) (by omega)), fun g gg1 gg2 => ?_⟩, ?_⟩, by omega, g2.2⟩
          · show (U.2.1 ||| 2 ^ p).testBit ((yaddf U.1 p l).fp g) = true
            rw [Nat.testBit_or, Nat.testBit_two_pow]
            unfold yaddf at gg2 ⊢
            by_cases e : p = 0
            · rw [if_pos e] at gg2 ⊢
              rw [ysfl_f] at gg2
              rw [ysfl_fp, kg g gg1 gg2]
              rfl
            · rw [if_neg e] at gg2 ⊢
              rw [ysfe_f] at gg2
              rw [ysfe_fp]
              obtain ⟨⟨j1, j2⟩, -, -⟩ := yfJ_ok k0 e (hadd e).1
              generalize yfJ U.1 p = j at *
              unfold yinsN
              by_cases c1 : g < j
              · rw [if_pos c1, kg g gg1 (by omega)]
                rfl
              · rw [if_neg c1]
                by_cases c2 : g = j
                · rw [if_pos c2, decide_eq_true rfl, Bool.or_true]
                · rw [if_neg c2, kg (g - 1) (by omega) (by omega)]
                  rfl
          · intro hc
            have := kc hc
            show (yaddf U.1 p l).cn = 0
            unfold yaddf
            split
            · exact this
            · exact this
        · cases h
  · cases h
theorem yUk_D {U : yU} (K : yUk U) {D : yD} (h : yDok D) (h1 : D.f = U.1.f) (h2 : D.fp = U.1.fp) (h3 : D.cn = U.1.cn) : yUk (D, U.2) :=
  ⟨h, ⟨K.2.1.1, fun g g1 g2 => by
    have g2' : g < D.f := g2
    show U.2.1.testBit (D.fp g) = true
    rw [h2]
    exact K.2.1.2 g g1 (by omega)⟩, fun hc => by
    show D.cn = 0
    rw [h3]
    exact K.2.2 hc⟩
theorem yrkind_ok {q q' p : Nat} {U U' : yU} (K : yUk U) (hq : q ≤ n) (hp : p < U.1.n) (hb : ybad U.1.kd U.1.n < 10) (h : yrkind n B q U p = .inr (q', U')) : yUk U' ∧ (q < q' ∧ q' ≤ n) := by
  unfold yrkind at h
  split at h
  · rename_i h1
    have g1 := yisw_go (by decide) hq h1
    cases h
    exact ⟨yUk_D K (yDok_kp K.1 hp (Or.inr (Or.inl rfl)) (fun e => absurd e (by decide)) (fun _ _ => hb)) rfl rfl rfl, g1⟩
  · split at h
    · rename_i h1
      have g1 := yisw_go (by decide) hq h1
      cases h
      exact ⟨yUk_D K (yDok_kp K.1 hp (Or.inr (Or.inr (Or.inl rfl))) (fun e => absurd e (by decide)) (fun _ _ => hb)) rfl rfl rfl, g1⟩
    · split at h
      · rename_i h1
        have g1 := yisw_go (by decide) hq h1
        unfold yrstu at h
        split at h
        · rename_i h2
          have hv := ynv_lt h2
          have g2 := ynq_go h2
          cases h
          refine ⟨yUk_D K (yDok_kp K.1 hp (Or.inr (Or.inr (Or.inr rfl))) (fun _ => ⟨_, ?_, rfl⟩) (fun _ _ => hb)) rfl rfl rfl, by omega, g2.2⟩
          omega
        · cases h
      · cases h
theorem yrbad_ok {q q' : Nat} {U U' : yU} (K : yUk U) (hq : q ≤ n) (hw : yisw n B q 0 = true) (h : yrbad n B q U = .inr (q', U')) : yUk U' ∧ (q < q' ∧ q' ≤ n) := by
  have hn1 := K.1.n1
  have g0 := yisw_go (i := 0) (by decide) hq hw
  unfold yrbad at h
  split at h
  · cases h
  · rename_i h0
    unfold yrbad1 at h
    split at h
    · rename_i h1
      have hv := ynv_lt h1
      have g1 := ynq_go h1
      split at h
      · have h3 := yrkind_ok K g1.2 (by omega) (by omega) h
        exact ⟨h3.1, by omega, h3.2.2⟩
      · cases h
    · cases h
theorem yrch_ok : ∀ m q c q' c', q ≤ n → yrch n B m q c = .inr (q', c') → (q ≤ q' ∧ q' ≤ n) ∧ c' < (c + 1) * 256 ^ m := by
  intro m
  induction m with
  | zero =>
    intro q c q' c' hq h
    cases h
    exact ⟨⟨Nat.le_refl _, hq⟩, by omega⟩
  | succ m ih =>
    intro q c q' c' hq h
    rw [yrch] at h
    split at h
    · rename_i h1
      have hv := ynv_lt h1
      have g1 := ynq_go h1
      have h2 := ih _ _ _ _ g1.2 h
      refine ⟨by omega, Nat.lt_of_lt_of_le h2.2 ?_⟩
      rw [Nat.pow_succ, Nat.mul_comm (256 ^ m) 256, ← Nat.mul_assoc]
      exact Nat.mul_le_mul_right _ (by omega)
    · cases h
theorem ypt_D {c : Int32} : ∀ m p a (D : yD), ∃ F, (ypt c m p a D).2 = D.sfm F := by
  intro m
  induction m with
  | zero => intro p a D; exact ⟨D.fm, rfl⟩
  | succ m ih =>
    intro p a D
    rw [ypt]
    obtain ⟨F, hF⟩ := ih (p + 1) (if D.fm p = c then a else a + 1) (D.sfm (upd D.fm p c))
    exact ⟨F, by rw [hF]; rfl⟩
theorem yrfill_ok {q q' : Nat} {U U' : yU} (K : yUk U) (h : yrfill n B q U = .inr (q', U')) : yUk U' ∧ (q < q' ∧ q' ≤ n) := by
  unfold yrfill at h
  split at h
  · rename_i h1
    have g1 := ynq_go h1
    split at h
    · rename_i h2
      have g2 := ynq_go h2
      cases hr : yrch n B 3 (ynq n B (ynq n B q)) 0 with
      | inl e => rw [hr] at h; cases h
      | inr z =>
        obtain ⟨q1, c⟩ := z
        have g3 := yrch_ok _ _ _ _ _ g2.2 hr
        rw [hr] at h
        obtain ⟨F, hF⟩ := ypt_D (c := yI c) (ynv n B (ynq n B q) + 1 - ynv n B q) (ynv n B q) 0 U.1
        have h' : yrpt (.inr (q1, c)) U (ynv n B q) (ynv n B (ynq n B q)) = .inr (q1, (U.1.sfm F, U.2)) := by
          show (Sum.inr (q1, ((ypt (yI c) (ynv n B (ynq n B q) + 1 - ynv n B q) (ynv n B q) 0 U.1).2, U.2)) : yQs) = _
          rw [hF]
        rw [h'] at h
        cases h
        exact ⟨yUk_D K (yDok_sfm K.1) rfl rfl rfl, by omega, g3.1.2⟩
    · cases h
  · cases h
theorem yrst_ok {q q' : Nat} {U U' : yU} (hn : n ≤ 600) (K : yUk U) (hq : q ≤ n) (h : yrst n B q U = .inr (q', U')) : yUk U' ∧ (q < q' ∧ q' ≤ n) := by
  unfold yrst at h
  split at h
  · rename_i h1
    have g1 := yisw_go (by decide) hq h1
    have h2 := yrfeed_ok K h
    exact ⟨h2.1, by omega, h2.2.2⟩
  · split at h
    · rename_i h1
      exact yrbad_ok K hq h1 h
    · split at h
      · rename_i h1
        have g1 := yisw_go (by decide) hq h1
        have h2 := yrfill_ok K h
        exact ⟨h2.1, by omega, h2.2.2⟩
      · split at h
        · rename_i h1
          have g1 := yisw_go (by decide) hq h1
          split at h
          · cases h
          · unfold yrlev at h
            split at h
            · rename_i h2
              have hv := ynv_lt h2
              have g2 := ynq_go h2
              cases h
              exact ⟨⟨yDok_slv K.1 (by omega), K.2⟩, by omega, g2.2⟩
            · cases h
        · split at h
          · rename_i h1
            have g1 := yisw_go (by decide) hq h1
            split at h
            · cases h
            · unfold yrcur at h
              split at h
              · cases h
              · rename_i q1 l hr
                obtain ⟨s1, s2, s3⟩ := ysum_ev g1.2 hr
                cases h
                exact ⟨⟨yDok_scv K.1 (yCok_ev (by omega) s3), K.2.1, fun hc => by cases hc⟩, by omega, s1.2⟩
          · cases h
theorem yrst'_ok {q q' : Nat} {U U' : yU} (hn : n ≤ 600) (K : yUk U) (hq : q ≤ n) (h : yrst' n B q U = .inr (q', U')) : yUk U' ∧ (q < q' ∧ q' ≤ n) := by
  obtain ⟨q1, U1, h1, h2⟩ := yqthen_in h
  have h3 := yrst_ok hn K hq h1
  unfold yrend at h2
  split at h2
  · rename_i h4
    have g1 := yat_go h4
    cases h2
    exact ⟨h3.1, by omega, g1.2⟩
  · cases h2
theorem yUk_0 {a b : Nat} (h1 : 1 ≤ a) (h2 : a ≤ 40) (h3 : 1 ≤ b) (h4 : b ≤ 100) : yUk (yD0 a b, (0, (false, false))) := by
  refine ⟨yD0_ok h1 h2 h3 h4, ⟨Nat.pow_pos (by decide), fun g g1 g2 => ?_⟩, fun _ => rfl⟩
  have g2' : g < (yD0 a b).f := g2
  rw [yD0_f] at g2'
  omega
theorem yrend_ok {q q' : Nat} {U U' : yU} (h : yrend n B q U = .inr (q', U')) : U' = U ∧ (q < q' ∧ q' ≤ n) := by
  unfold yrend at h
  split at h
  · rename_i h4
    have g1 := yat_go h4
    cases h
    exact ⟨rfl, g1⟩
  · cases h
theorem yrhd_ok {q' : Nat} {U' : yU} (h : yrhd n B = .inr (q', U')) : yUk U' ∧ q' ≤ n := by
  unfold yrhd at h
  split at h
  · unfold yrh1 at h
    split at h
    · rename_i h1
      split at h
      · rename_i h2
        have hv := ynv_lt h1
        have hw := ynv_lt h2
        obtain ⟨rfl, -, g⟩ := yrend_ok h
        exact ⟨yUk_0 hv.2.1 hv.2.2 hw.2.1 hw.2.2, g⟩
      · cases h
    · cases h
  · cases h
theorem yrl_ok (hn : n ≤ 600) : ∀ m q U q' U', yUk U → q ≤ n → n - q ≤ m → yrl n B m q U = .inr (q', U') → yUk U' ∧ q' = n := by
  intro m
  induction m with
  | zero =>
    intro q U q' U' K hq hm h
    cases h
    exact ⟨K, by omega⟩
  | succ m ih =>
    intro q U q' U' K hq hm h
    rw [yrl] at h
    split at h
    · cases h
      exact ⟨K, by omega⟩
    · obtain ⟨q1, U1, h1, h2⟩ := yqthen_in h
      have h3 := yrst'_ok hn K hq h1
      exact ih _ _ _ _ h3.1 h3.2.2 (by omega) h2
theorem yrset_ok (hn : n ≤ 600) {q' : Nat} {U' : yU} (h : yrset n B = .inr (q', U')) : yUk U' := by
  obtain ⟨q1, U1, h1, h2⟩ := yqthen_in h
  have h3 := yrhd_ok h1
  exact (yrl_ok hn _ _ _ _ _ h3.1 h3.2 (by omega) h2).1
end

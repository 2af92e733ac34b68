/-! ===== the law's own strips: what a command changes ===== -/
theorem pgo_cv : ∀ m p f (D : yD), (ygo m p f D).cn = D.cn ∧ ((ygo m p f D).cg = D.cg ∧ (ygo m p f D).f = D.f) := by
  intro m
  induction m with
  | zero => intro p f D; exact ⟨rfl, rfl, rfl⟩
  | succ m ih =>
    intro p f D
    simp only [ygo]
    split
    · exact ih _ _ _
    · split
      · split
        · exact ⟨rfl, rfl, rfl⟩
        · rename_i f' _ _
          have key : ∀ f', (ygo m (p + 1) f' (ytkS D p (D.du f) (yI f))).cn = D.cn ∧ ((ygo m (p + 1) f' (ytkS D p (D.du f) (yI f))).cg = D.cg ∧ (ygo m (p + 1) f' (ytkS D p (D.du f) (yI f))).f = D.f) := fun f' => by
            obtain ⟨a, b, c⟩ := ih (p + 1) f' (ytkS D p (D.du f) (yI f))
            exact ⟨a.trans rfl, b.trans rfl, c.trans rfl⟩
          exact key _
      · exact ⟨rfl, rfl, rfl⟩
theorem pshow_k {D : yD} {M : Nat} (h : pfr D M) : ((yshowD D).n = D.n ∧ ((yshowD D).cn = D.cn ∧ ((yshowD D).cg = D.cg ∧ (yshowD D).f = D.f))) ∧ pfr (yshowD D) (M + 1) := by
  obtain ⟨f, hf⟩ := ydue_sdu D
  have e1 : (ypassD (ydue D)).n = D.n := by unfold ypassD; rw [pgo_n, hf]; rfl
  have e2 := pgo_cv (ydue D).n 0 (ynx (ydue D).bp (ydue D).n 0) (ydue D)
  have e3 : pfr (ydue D) M := by rw [hf]; exact h
  have e4 : pfr (ypassD (ydue D)) (M + 1) := pfr_go e3
  have e5 : (ydue D).cn = D.cn := by rw [hf]; rfl
  have e6 : (ydue D).cg = D.cg := by rw [hf]; rfl
  have e7 : (ydue D).f = D.f := by rw [hf]; rfl
  rw [e5, e6, e7] at e2
  have e2' : (ypassD (ydue D)).cn = D.cn ∧ ((ypassD (ydue D)).cg = D.cg ∧ (ypassD (ydue D)).f = D.f) := e2
  unfold yshowD
  obtain ⟨P, eP⟩ : ∃ P, P = ypassD (ydue D) := ⟨_, rfl⟩
  rw [← eP] at e1 e2' e4 ⊢
  obtain ⟨x, hx⟩ : ∃ x, x = P.ac + ycurrent (P.ssh (P.sh + 1)) := ⟨_, rfl⟩
  rw [← hx]
  exact ⟨⟨e1, e2'⟩, e4⟩
theorem pshow_ok {D : yD} (h : yDok D) : yDok (yshowD D) := by
  unfold yshowD
  exact yDok_sac (yDok_ssh (ypassD_ok (ydue_ok h)))
theorem pcv_to {σ : xS} {cv : Value} {D D' : yD} (h : pcv σ cv D) (h1 : D'.cn = D.cn) (h2 : D'.cg = D.cg) : pcv σ cv D' := by
  unfold pcv at h ⊢
  rw [h1, h2]
  exact h
theorem ybs_ne {w p n q : Nat} {b : Bool} (hw : w < 2 ^ n) (hn : n ≤ 40) (hp : p < n) (hq : q ≠ p) : (ybs w p b).testBit q = w.testBit q := by
  by_cases h : q < 64
  · rw [ybs_bit h, if_neg hq]
  · have h1 := ybs_lt (b := b) hw hp
    have e : 2 ^ n ≤ 2 ^ q := Nat.pow_le_pow_right (by decide) (by omega)
    rw [Nat.testBit_lt_two_pow (Nat.lt_of_lt_of_le h1 e), Nat.testBit_lt_two_pow (Nat.lt_of_lt_of_le hw e)]
section
variable {d lo hi s c' s' p : Nat} {cv : Value} {dn en dn' en' : Int32} {σ0 σ : xS} {R : pR} {D D' : yD}
theorem pU.strip (B : pU lo hi s cv dn en σ0 c' s' σ R D) (h1 : D'.n = D.n) (h2 : D'.f = D.f) (h3 : D'.fp = D.fp) (h4 : D'.fl = D.fl) (hq : ∀ q, plkp R R D D' q) {x : xE} (hx : x = .inr (12, [.ref R.lr, .int D'.un, .int D'.lv, .int D'.sh, .int D'.ac, .ref R.fr, cv, .int dn', .int en'])) : pU lo hi s cv dn' en' σ0 c' s' (xwr σ s x) R D' := by
  obtain ⟨S, Z, J, F⟩ := B
  subst hx
  exact ⟨S.strip h1 h2 h3 h4 hq, pZ_wr Z S.1.2, J.to ⟨rfl, rfl, rfl, rfl⟩ h1 h2, pF_own F Z S.1.2 pco_strip J.1⟩
theorem pU.mono {c'' s'' : Nat} (B : pU lo hi s cv dn en σ0 c' s' σ R D) (hc : c' ≤ c'') (hs : s' ≤ s'') : pU lo hi s cv dn en σ0 c'' s'' σ R D :=
  ⟨B.1, B.2.1, B.2.2.1, B.2.2.2.mono (fun _ _ q => q) hc hs⟩
theorem pU.sbw (B : pU lo hi s cv dn en σ0 c' s' σ R D) (hD : yDok D) (hp : p < D.n) {b : Bool} : pU lo hi s cv dn en σ0 c' s' (xwr σ (R.lm p) (plamp (D.kd p) (D.pd p) (yb b) (D.fr p) (D.og p) (R.tk p) (R.du p) (R.fm p))) R (D.sbw (ybs D.bw p b)) := by
  refine B.lamp hp ⟨rfl, rfl, rfl, rfl⟩ ⟨rfl, rfl, rfl, rfl, rfl, rfl, rfl, rfl⟩ (fun q hq => ⟨rfl, rfl, ybs_ne hD.bwn hD.n40 hp hq, rfl, rfl, rfl, rfl, rfl, rfl, rfl, rfl⟩) ⟨B.1.tk hp, B.1.du hp, B.1.fm hp⟩ ?_
  show _ = plamp _ _ (yb ((ybs D.bw p b).testBit p)) _ _ _ _ _
  have h40 := hD.n40
  rw [ybs_bit (by omega), if_pos rfl]
  rfl
end
/-- a command's cell and that of its numbers; h: where such cells begin -/
def pK (σ : xS) (T : yTb) (h a i nr : Nat) (ins : Value) (c : Nat → Int32) : Prop :=
  (h ≤ a ∧ a < 1000000) ∧ (σ.1 a = some (.inr (8, [.int (yI (T.1 i)), .ref nr, ins])) ∧ ((h ≤ nr ∧ nr < 1000000) ∧ (σ.1 nr = some (pints 5 c) ∧ ∀ j, j < ynb (T.1 i) → c j = yI (T.2.1 i j))))
/-- a row of commands from the table's lo to hi -/
def pCr (W : Nat → Nat → Nat → Prop) (σ : xS) (T : yTb) (h : Nat) (g : Nat → Option Nat) : Nat → Nat → Nat → Nat → Prop
  | 0, _, lo, hi => lo = hi
  | m + 1, k, lo, hi => (∃ a nr ins c, g k = some a ∧ (pK σ T h a lo nr ins c ∧ ((T.1 lo < 5 ∧ (T.2.2 lo = lo + 1 ∧ ∀ j, j < ynb (T.1 lo) → T.2.1 lo j < 10000)) ∨ (T.1 lo = 5 ∧ (T.2.1 lo 0 ≤ 20 ∧ (lo < T.2.2 lo ∧ ∃ r, ins = .ref r ∧ W r (lo + 1) (T.2.2 lo))))))) ∧ pCr W σ T h g m (k + 1) (T.2.2 lo) hi
def pCw (σ : xS) (T : yTb) (h : Nat) : Nat → Nat → Nat → Nat → Prop
  | 0 => fun r lo hi => (h ≤ r ∧ r < 1000000) ∧ ∃ n g, n ≤ 10 ∧ (σ.1 r = some (prow 8 n g) ∧ pCr (fun _ _ _ => False) σ T h g n 0 lo hi)
  | k + 1 => fun r lo hi => (h ≤ r ∧ r < 1000000) ∧ ∃ n g, n ≤ 10 ∧ (σ.1 r = some (prow 8 n g) ∧ pCr (pCw σ T h k) σ T h g n 0 lo hi)
theorem pCr_le {W : Nat → Nat → Nat → Prop} {σ : xS} {T : yTb} {h : Nat} {g : Nat → Option Nat} : ∀ m k lo hi, pCr W σ T h g m k lo hi → lo ≤ hi ∧ (0 < m → lo < T.2.2 lo ∧ T.2.2 lo ≤ hi) := by
  intro m
  induction m with
  | zero => intro k lo hi h; exact ⟨Nat.le_of_eq h, fun q => absurd q (Nat.lt_irrefl _)⟩
  | succ m ih =>
    intro k lo hi h
    obtain ⟨⟨a, nr, ins, c, -, -, h1⟩, h2⟩ := h
    have h3 := (ih _ _ _ h2).1
    have h4 : lo < T.2.2 lo := by
      rcases h1 with ⟨-, h1, -⟩ | ⟨-, -, h1, -⟩
      · omega
      · exact h1
    exact ⟨by omega, fun _ => ⟨h4, h3⟩⟩
/-- the law's strip while a script is done -/
def pQ (lo hi s : Nat) (cv : Value) (σ0 : xS) (M : Nat) (σ : xS) (R : pR) (X : yXs) : Prop :=
  pU lo hi s cv (yI X.2.2) (yI X.1) σ0 (20 * X.2.2) (72 * X.2.2) σ R X.2.1 ∧ ((yDok X.2.1 ∧ (X.2.1.n ≤ 9 ∧ (pfr X.2.1 (M + X.2.2) ∧ pcv σ0 cv X.2.1))) ∧ (X.2.2 ≤ 200 ∧ X.1 ≤ 3))

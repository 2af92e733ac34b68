/-! ===== strips by chance: the state, the first steps ===== -/
section
variable {d : Nat} {D : yD} {b r s c x : Nat} {σ σ0 τ : xS} {t0 : yT} {l w : List Nat} {R : pR} {cv : Value}
theorem pJ.hi {lo hi hi' : Nat} (J : pJ lo hi s R D) (h : hi ≤ hi') : pJ lo hi' s R D := by
  obtain ⟨a1, a2, a3, ⟨a4, a5⟩, a6⟩ := J
  exact ⟨⟨a1.1, by have := a1.2; omega⟩, ⟨a2.1, by have := a2.2; omega⟩, ⟨a3.1, by have := a3.2; omega⟩, ⟨fun p hp => ⟨(a4 p hp).1, by have := (a4 p hp).2; omega⟩, fun q hq => ⟨(a5 q hq).1, by have := (a5 q hq).2; omega⟩⟩, a6⟩
/-- the text so far and the strip so far -/
def pR7 (b r : Nat) (σ0 : xS) (t0 : yT) (s c x : Nat) (σ : xS) (l : List Nat) (R : pR) (D : yD) (cv : Value) : Prop :=
  pX b r σ0 t0 c x σ l ∧ (pS σ s R D cv 0 0 ∧ pJ σ0.2.1.1 σ.2.1.1 s R D)
theorem pX0.lo (X0 : pX0 b r σ0 t0) : 160 ≤ σ0.2.1.1 ∧ (b < σ0.2.1.1 ∧ (r < σ0.2.1.1 ∧ b ≠ r)) := by
  obtain ⟨⟨rfl, Z⟩, ⟨⟨b1, b2⟩, f, h1⟩, r1, r2, y, h2⟩ := X0
  have Zp := yZ_p Z
  refine ⟨Z.1, pZ_lt Zp h1, pZ_lt Zp h2, fun q => ?_⟩
  rw [q, h2] at h1
  simp at h1
theorem pXp_hi (X0 : pX0 b r σ0 t0) {a : Nat} (h : σ0.2.1.1 ≤ a) : ¬ pXp b r a := by
  obtain ⟨h1, h2, h3, -⟩ := X0.lo
  rintro (g | g | g | g) <;> omega
theorem pR7.wr (X0 : pX0 b r σ0 t0) (A : pR7 b r σ0 t0 s c x σ l R D cv) {c' x' : Nat} {l' : List Nat} (X : pX b r σ0 t0 c' x' τ l') (F : pF (pXp b r) 0 0 σ τ) : pR7 b r σ0 t0 s c' x' τ l' R D cv :=
  ⟨X, A.2.1.fr (A.1.Z X0) A.2.2 F (fun a _ h => pXp_hi X0 h.1) (A.1.co X0), A.2.2.hi F.2.2.1.1⟩
theorem pR7.law (X0 : pX0 b r σ0 t0) (A : pR7 b r σ0 t0 s c x σ l R D cv) {P : Nat → Prop} {c' x' : Nat} (F : pF P c' x' σ τ) (hP : ∀ a, P a → a = r) (hr : pch τ r) : pR7 b r σ0 t0 s (c + c') (x + x') τ l R D cv := by
  refine ⟨A.1.law X0 F (fun a h => Or.inr (hP a h)) hr, A.2.1.fr (A.1.Z X0) A.2.2 F (fun a _ h q => ?_) (fun a e h hc q => A.1.co X0 a e h hc (Or.inr (Or.inr (Or.inr (hP a q))))), A.2.2.hi F.2.2.1.1⟩
  exact pXp_hi X0 h.1 (Or.inr (Or.inr (Or.inr (hP a q))))
theorem pch_keep {P : Nat → Prop} {c' x' : Nat} (h : pch σ r) (Z : pZ σ) (F : pF P c' x' σ τ) (hP : ¬ P r) : pch τ r := by
  obtain ⟨h1, y, h2⟩ := h
  exact ⟨h1, y, pF_keep Z F h2 hP⟩
theorem pR7.new (X0 : pX0 b r σ0 t0) (A : pR7 b r σ0 t0 s c x σ l R D cv) {e : xE} {m : Nat} : pR7 b r σ0 t0 s (c + 1) (x + m) (xnew σ e m) l R D cv :=
  A.law X0 (P := pno) pF_new (fun _ q => q.elim) (pch_keep A.1.2.2.1 (A.1.Z X0) (pF_new (P := pno) (e := e) (n := m)) id)
/-- the strip's own changes -/
theorem pR7.pu (X0 : pX0 b r σ0 t0) (A : pR7 b r σ0 t0 s c x σ l R D cv) : pU σ0.2.1.1 σ.2.1.1 s cv 0 0 σ 0 0 σ R D := ⟨A.2.1, A.1.Z X0, A.2.2, pF.rfl'⟩
theorem pR7.up (X0 : pX0 b r σ0 t0) (A : pR7 b r σ0 t0 s c x σ l R D cv) {c' x' : Nat} {R' : pR} {D' : yD} {cv' : Value} (B : pU σ0.2.1.1 σ.2.1.1 s cv' 0 0 σ c' x' τ R' D') : pR7 b r σ0 t0 s (c + c') (x + x') τ l R' D' cv' := by
  obtain ⟨S, Z, J, F⟩ := B
  have hlo := X0.lo
  refine ⟨A.1.law X0 F (fun a h => Or.inl h.1.1) (pch_keep A.1.2.2.1 (A.1.Z X0) F (fun h => by have := h.1.1; omega)), S, J.hi F.2.2.1.1⟩
/-- chance -/
theorem pR7.go (X0 : pX0 b r σ0 t0) (A : pR7 b r σ0 t0 s c x σ l R D cv) {m : Nat} (hm : 0 < m) (hm' : m < 65536) : ∃ v τ, v < m ∧ (Ra d 131 [.ref r, .int (yI m)] σ (.inl (some (.int (yI v)))) τ ∧ ((pR7 b r σ0 t0 s c x τ l R D cv ∧ τ.2 = σ.2) ∧ ∀ a, a ≠ r → τ.1 a = σ.1 a)) := by
  obtain ⟨v, τ, hv, g, ⟨⟨Z, p⟩, F⟩, q, e⟩ := pch_go (d := d) A.1.2.2.1 (A.1.Z X0) hm hm'
  exact ⟨v, τ, hv, g, ⟨A.law X0 F (fun _ h => h) p, e⟩, q⟩
theorem pR7.or (A : pR7 b r σ0 t0 s c x σ l R D cv) : ∃ fs, xRd σ r = some (.inr (11, fs)) := by
  obtain ⟨h1, y, h2⟩ := A.1.2.2.1
  exact ⟨_, (yrd_lt h1).trans h2⟩
theorem pR7.nx (X0 : pX0 b r σ0 t0) (A : pR7 b r σ0 t0 s c x σ l R D cv) : σ0.2.1.1 ≤ σ.2.1.1 ∧ σ.2.1.1 ≤ σ0.2.1.1 + c := A.1.2.2.2.1.2.2.1
/-- a word, numbers -/
theorem pR7.all {D0 : yD} {k0 : Nat} {E0 : Nat → yD} {s0 s1 : Option yD} {n0 : Nat} {B0 : Nat → Nat} {eo en : Int32} (X0 : pX0 b r σ0 t0) (C : yCI t0 D0 k0 E0 s0 s1 n0 B0 eo en) (A : pR7 b r σ0 t0 s c x σ l R D cv) {i : Nat} (hi : i < 26) {M nr N : Nat} {f : Nat → Int32} {v : Nat → Nat} (hN : M ≤ N) (hN' : N ≤ 10) (hv : ∀ j, j < M → f j = yI (v j) ∧ v j < 10000) (hnr : σ0.2.1.1 ≤ nr ∧ nr < 1000000) (hrow : σ.1 nr = some (pints N f)) (hl : l.length + ywl i + 5 * M ≤ 590) : ∃ τ, Ra (d + 19) 205 [.ref 0, .ref b, .ref (1000100 + i), .int (yI M), .ref nr] σ (.inl none) τ ∧ (pR7 b r σ0 t0 s c x τ (l ++ (ptw i ++ pnm v 0 M)) R D cv ∧ pF (pXp b r) 0 0 σ τ) := by
  obtain ⟨τ, k, X, F⟩ := m_205 (d := d + 14) X0 C A.1 (pTx_t hi) hN hN' hv ⟨⟨hnr.2, pXp_hi X0 hnr.1⟩, hrow⟩ (by rw [ptw_len]; exact hl)
  exact ⟨τ, k, A.wr X0 X F, F⟩
theorem pR7.semi {D0 : yD} {k0 : Nat} {E0 : Nat → yD} {s0 s1 : Option yD} {n0 : Nat} {B0 : Nat → Nat} {eo en : Int32} (X0 : pX0 b r σ0 t0) (C : yCI t0 D0 k0 E0 s0 s1 n0 B0 eo en) (A : pR7 b r σ0 t0 s c x σ l R D cv) {i : Nat} (hi : i < 26) (hl : l.length + ywl i ≤ 600) : ∃ τ, Ra (d + 19) 182 [.ref 0, .ref b, .ref (1000100 + i)] σ (.inl none) τ ∧ (pR7 b r σ0 t0 s c x τ (l ++ ptw i) R D cv ∧ pF (pXp b r) 0 0 σ τ) := by
  obtain ⟨τ, k, X, F⟩ := m_182 (d := d + 15) X0 C A.1 (by rw [ptw_len]; exact hl) (pTx_t hi)
  exact ⟨τ, k, A.wr X0 X F, F⟩
/-- lamps that are made one after the other -/
def pYl (κ σ0 : xS) (r s' L n i c x : Nat) (o : xE) (M T U V : Nat → Nat) (τ : xS) : Prop :=
  ((pF (fun a => a = r) c x σ0 τ ∧ (pZ τ ∧ pch τ r)) ∧ ∀ a e, κ.1 a = some e → a ≠ L → τ.1 a = some e) ∧ ((s' < τ.2.1.1 ∧ τ.1 s' = some o) ∧ (((σ0.2.1.1 ≤ L ∧ L < τ.2.1.1) ∧ ∃ g, τ.1 L = some (prow 6 n g) ∧ ∀ q, q < i → g q = some (M q)) ∧ ((∀ q, q < i → (L < M q ∧ M q < τ.2.1.1) ∧ (τ.1 (M q) = some (plamp 0 0 0 0 (-1) (T q) (U q) (V q)) ∧ (pC τ (T q) 0 ∧ (pC τ (U q) 0 ∧ pC τ (V q) 0)))) ∧ ∀ p q, p < q → q < i → M p < M q)))
theorem l_207l {κ σ0 : xS} {L n : Nat} (hn : n ≤ 9) (hr : σ0.2.1.1 + 80 < 900000) (hrl : r < σ0.2.1.1) {s' : Nat} (hs' : s' < 1000000) (hL : L < 1000000) {f : Value} {u v : Int32} {l0 l1 l2 : Option Value} : ∀ m i c x τ M T U V, i + m = n → c + 4 * m ≤ 60 → pYl κ σ0 r s' L n i c x (pN12 (.ref L) f u v) M T U V τ → ∃ υ M' T' U' V', Gg (d + 20) 207 16 [l0, l1, l2, some (.ref s'), some (.int (yI n)), some (.int (yI i)), none, none, none, none, none] [] τ 28 [l0, l1, l2, some (.ref s'), some (.int (yI n)), some (.int (yI n)), none, none, none, none, none] [] υ ∧ pYl κ σ0 r s' L n n (c + 4 * m) (x + 17 * m) (pN12 (.ref L) f u v) M' T' U' V' υ := by
  intro m
  induction m with
  | zero =>
    intro i c x τ M T U V hi hc A
    have ei : i = n := by omega
    subst ei
    refine ⟨τ, M, T, U, V, fun Q => ?_, A⟩
    rw [s_207_16]
    simp only [s_207_17, s_207_18, Int32.le_refl, if_true, Gk_v, Gk_n, xcat_nil, xcat_i, xcat_r, xcat_l, xcat_d, Nat.zero_le, Nat.reduceAdd, Nat.reduceLeDiff, true_and, and_true, ykl_i, ykl_r, ykl_n, ykl_l]
  | succ m ih =>
    intro i c x τ M T U V hi hc A
    have hin : i < n := by omega
    obtain ⟨⟨⟨F, Z, ch⟩, kk⟩, ⟨hs1, hso⟩, ⟨⟨hL1, hL2⟩, g, hg1, hg2⟩, hM, hMm⟩ := A
    have nx := F.2.2.1
    have z1 : ¬ yI n ≤ yI i := fun h => absurd ((yI_le (by omega) (by omega)).mp h) (by omega)
    have z4 : yI i + 1 = yI (i + 1) := yI_add
    have c3 : yix (yI i) n := yix_I (by omega) (by omega)
    have c4 : (yI i).toNatClampNeg = i := yI_clamp (by omega)
    -- a new cell
    have Z1 := pZ_new (e := .inr (9, xdef 9)) (m := 8) Z
    have F1 := pF_al (e := .inr (9, xdef 9)) (m := 8) F
    have a1 : (xnew τ (.inr (9, xdef 9)) 8).1 τ.2.1.1 = some (.inr (9, xdef 9)) := pnew_at
    have k1 : ∀ {a e}, τ.1 a = some e → (xnew τ (.inr (9, xdef 9)) 8).1 a = some e := fun {a e} h => by
      have := pZ_lt Z h
      rw [xnew_1, if_neg (by omega), h]
    have x1 : (xnew τ (.inr (9, xdef 9)) 8).2.1.1 = τ.2.1.1 + 1 := rfl
    obtain ⟨τ1, e1⟩ : ∃ τ1, τ1 = xnew τ (.inr (9, xdef 9)) 8 := ⟨_, rfl⟩
    rw [← e1] at Z1 F1 a1 x1
    have k1' : ∀ {a e}, τ.1 a = some e → τ1.1 a = some e := fun {a e} h => by rw [e1]; exact k1 h
    obtain ⟨τ2, t', u', f', g2, F2, Z2, a2, ⟨-, t2⟩, u2, f2⟩ := m_123 (d := d + 19) (l := τ.2.1.1) (by omega) a1 Z1 (by omega)
    have nx2 := F2.2.2.1
    have k2 : ∀ {a e}, τ.1 a = some e → τ2.1 a = some e := fun {a e} h => by
      have := pZ_lt Z h
      exact pF_keep Z1 F2 (k1' h) (by omega)
    have hg2' := k2 hg1
    have hLs : L ≠ s' := fun q => by rw [q, hso] at hg1; simp [prow] at hg1
    have F3 : pF (fun a => a = r) (c + 4) (x + 17) σ0 τ2 := (pF.trans F1 F2 (P' := fun a => a = r) (fun a ha q => q.elim id (fun q => by omega))).mono (fun _ _ q => q) (by omega) (by omega)
    -- it goes into the row
    have k3 : ∀ {a e}, a ≠ L → τ2.1 a = some e → (xwr τ2 L (prow 6 n (va_up g i (some τ.2.1.1)))).1 a = some e := fun {a e} h1 h2 => by rw [xwr_1, if_neg h1, h2]
    have kc : ∀ {a : Nat} {y : Int32}, pC τ2 a y → pC (xwr τ2 L (prow 6 n (va_up g i (some τ.2.1.1)))) a y := fun {a y} ⟨h0, c, h3, h4⟩ => ⟨h0, c, k3 (fun q => by rw [q, hg2'] at h3; simp [prow] at h3) h3, h4⟩
    have kc2 : ∀ {a : Nat} {y : Int32}, pC τ a y → pC τ2 a y := fun {a y} ⟨h0, c, h3, h4⟩ => ⟨h0, c, k2 h3, h4⟩
    have A2 : pYl κ σ0 r s' L n (i + 1) (c + 4) (x + 17) (pN12 (.ref L) f u v) (pup M i τ.2.1.1) (pup T i t') (pup U i u') (pup V i f') (xwr τ2 L (prow 6 n (va_up g i (some τ.2.1.1)))) := by
      refine ⟨⟨⟨pF_hi F3 Z2 hg2' hL1, pZ_wr Z2 hg2', ?_⟩, fun a e h1 h2 => k3 h2 (k2 (kk a e h1 h2))⟩, ⟨by show s' < τ2.2.1.1; omega, k3 (fun q => hLs q.symm) (k2 hso)⟩, ⟨⟨hL1, by show L < τ2.2.1.1; omega⟩, va_up g i (some τ.2.1.1), by rw [xwr_1, if_pos rfl], fun q hq => ?_⟩, fun q hq => ?_, fun p q hp hq => ?_⟩
      · obtain ⟨h1, y, h2⟩ := ch
        exact ⟨h1, y, k3 (by omega) (k2 h2)⟩
      · show (if q = i then some τ.2.1.1 else g q) = some (pup M i τ.2.1.1 q)
        by_cases hqi : q = i
        · subst hqi
          rw [if_pos rfl, pup_same]
        · rw [if_neg hqi, pup_ne hqi]
          exact hg2 q (by omega)
      · by_cases hqi : q = i
        · subst hqi
          rw [pup_same, pup_same, pup_same, pup_same]
          exact ⟨⟨by omega, by show τ.2.1.1 < τ2.2.1.1; omega⟩, k3 (by omega) a2, kc t2, kc u2, kc f2⟩
        · rw [pup_ne hqi, pup_ne hqi, pup_ne hqi, pup_ne hqi]
          obtain ⟨⟨m1, m2⟩, m3, m4, m5, m6⟩ := hM q (by omega)
          exact ⟨⟨m1, by show M q < τ2.2.1.1; omega⟩, k3 (by omega) (k2 m3), kc (kc2 m4), kc (kc2 m5), kc (kc2 m6)⟩
      · by_cases hqi : q = i
        · subst hqi
          rw [pup_same, pup_ne (by omega)]
          exact (hM p (by omega)).1.2
        · rw [pup_ne hqi, pup_ne (by omega)]
          exact hMm p q hp (by omega)
    obtain ⟨τ3, e3⟩ : ∃ τ3, τ3 = xwr τ2 L (prow 6 n (va_up g i (some τ.2.1.1))) := ⟨_, rfl⟩
    rw [← e3] at A2
    obtain ⟨υ, M', T', U', V', i1, i2⟩ := ih (i + 1) (c + 4) (x + 17) τ3 _ _ _ _ (by omega) (by omega) A2
    refine ⟨υ, M', T', U', V', fun Q => ?_, by rw [show c + 4 * (m + 1) = c + 4 + 4 * m by omega, show x + 17 * (m + 1) = x + 17 + 17 * m by omega]; exact i2⟩
    refine Iff.trans ?_ (i1 Q)
    have w1 : xRd τ s' = _ := (yrd_lt hs').trans hso
    have hl9 : τ.2.1.1 < 1000000 := by omega
    have hl8 : τ.2.1.1 < 900000 := by omega
    have o1 : xRd τ1 τ.2.1.1 = some (.inr (9, xdef 9)) := (yrd_lt hl9).trans a1
    rw [s_207_16]
    simp only [s_207_17, s_207_18, s_207_19, s_207_20, s_207_21, s_207_22, z1, w1, hl8, if_false, hgf_s, hsel_0, true_and, Gk_v, Gk_n, xcat_nil, xcat_i, xcat_r, xcat_l, xcat_d, Nat.zero_le, Nat.reduceAdd, Nat.reduceLeDiff, true_and, and_true, ykl_i, ykl_r, ykl_n, ykl_l]
    rw [← e1]
    simp only [s_207_23, s_207_23i, s_207_24, s_207_25, s_207_26, s_207_27, o1, g2 _, hg2', a2, hL, hl9, z4, c3, c4, plamp, hpa_o (show (6 : Nat) = 4 ∨ 6 = 6 ∨ 6 = 7 ∨ 6 = 8 by decide) (show 9 = xofA 6 from rfl), hcl_s, true_and, Gk_v, Gk_n, xcat_nil, xcat_i, xcat_r, xcat_l, xcat_d, Nat.zero_le, Nat.reduceAdd, Nat.reduceLeDiff, true_and, and_true, ykl_i, ykl_r, ykl_n, ykl_l]
    rw [← e3]
end

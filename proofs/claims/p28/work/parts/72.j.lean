/-! ===== the law's own strips: what a change leaves ===== -/
def pup (f : Nat → Nat) (a v : Nat) : Nat → Nat := fun z => if z = a then v else f z
theorem pup_ne {f : Nat → Nat} {a b v : Nat} (h : b ≠ a) : pup f a v b = f b := if_neg h
theorem pup_same {f : Nat → Nat} {a v : Nat} : pup f a v a = v := if_pos rfl
def pR.sdu (R : pR) (f : Nat → Nat) : pR := (R.1, (R.2.1, (R.2.2.1, (R.2.2.2.1, (R.2.2.2.2.1, (f, R.2.2.2.2.2.2))))))
def pR.stk (R : pR) (f : Nat → Nat) : pR := (R.1, (R.2.1, (R.2.2.1, (R.2.2.2.1, (f, (R.2.2.2.2.2.1, R.2.2.2.2.2.2))))))
def pR.sfm (R : pR) (f : Nat → Nat) : pR := (R.1, (R.2.1, (R.2.2.1, (R.2.2.2.1, (R.2.2.2.2.1, (R.2.2.2.2.2.1, f))))))
abbrev plkR (R R' : pR) : Prop := R'.lr = R.lr ∧ (R'.lm = R.lm ∧ (R'.fr = R.fr ∧ R'.fg = R.fg))
abbrev plkD (D D' : yD) : Prop := D'.n = D.n ∧ (D'.f = D.f ∧ (D'.un = D.un ∧ (D'.lv = D.lv ∧ (D'.sh = D.sh ∧ (D'.ac = D.ac ∧ (D'.fp = D.fp ∧ D'.fl = D.fl))))))
abbrev plkp (R R' : pR) (D D' : yD) (q : Nat) : Prop := D'.kd q = D.kd q ∧ (D'.pd q = D.pd q ∧ (D'.bp q = D.bp q ∧ (D'.fr q = D.fr q ∧ (D'.og q = D.og q ∧ (D'.tk q = D.tk q ∧ (D'.du q = D.du q ∧ (D'.fm q = D.fm q ∧ (R'.tk q = R.tk q ∧ (R'.du q = R.du q ∧ R'.fm q = R.fm q)))))))))
/-- no color lies there -/
abbrev pnx (R : pR) (n a : Nat) : Prop := ∀ p, p < n → R.tk p ≠ a ∧ (R.du p ≠ a ∧ R.fm p ≠ a)
section
variable {σ τ σ0 : xS} {s : Nat} {R R' : pR} {D D' : yD} {cv : Value} {dn en : Int32} {c n lo hi a : Nat} {e e' : xE}
theorem pJ.to (J : pJ lo hi s R D) (hR : plkR R R') (h1 : D'.n = D.n) (h2 : D'.f = D.f) : pJ lo hi s R' D' := by
  obtain ⟨a1, a2, a3, ⟨a4, a5⟩, a6, a7⟩ := J
  obtain ⟨r1, r2, r3, r4⟩ := hR
  unfold pJ
  rw [r1, r2, r3, r4, h1, h2]
  exact ⟨a1, a2, a3, ⟨a4, a5⟩, a6, a7⟩
/-- a lamp's cell written anew -/
theorem pS.lamp (S : pS σ s R D cv dn en) (J : pJ lo hi s R D) {p : Nat} (hp : p < D.n) (hR : plkR R R') (hD : plkD D D') (hq : ∀ q, q ≠ p → plkp R R' D D' q) (hc : (pC σ (R'.tk p) (D'.tk p) ∧ pcol (D'.tk p)) ∧ ((pC σ (R'.du p) (D'.du p) ∧ pcol (D'.du p)) ∧ (pC σ (R'.fm p) (D'.fm p) ∧ pcol (D'.fm p)))) : pS (xwr σ (R.lm p) (plamp (D'.kd p) (D'.pd p) (yb (D'.bp p)) (D'.fr p) (D'.og p) (R'.tk p) (R'.du p) (R'.fm p))) s R' D' cv dn en := by
  obtain ⟨r1, r2, r3, r4⟩ := hR
  obtain ⟨d1, d2, d3, d4, d5, d6, d7, d8⟩ := hD
  have hl := (S.2.2.1 p hp).2
  have hinj := J.2.2.2.2.1
  have hk : ∀ b e, σ.1 b = some e → (∀ k pd bp fr og t u f, e ≠ plamp k pd bp fr og t u f) → ∀ x, (xwr σ (R.lm p) x).1 b = some e := by
    intro b e h hne x
    rw [xwr_1]
    split
    · rename_i hb
      rw [hb, hl] at h
      exact absurd (Option.some.inj h).symm (hne _ _ _ _ _ _ _ _)
    · exact h
  have hco : ∀ {b x}, pC σ b x → ∀ y, pC (xwr σ (R.lm p) y) b x := by
    rintro b x ⟨h0, c, h1, h2⟩ y
    exact ⟨h0, c, hk b _ h1 (by intros; simp [plamp]) y, h2⟩
  obtain ⟨⟨a1, a2⟩, ⟨b1, g, b2, b3⟩, c1, e1, ⟨f1, g', f2, f3⟩, i1⟩ := S
  refine ⟨⟨a1, ?_⟩, ⟨by rw [r1]; exact b1, g, ?_, ?_⟩, ?_, ?_, ⟨by rw [r3]; exact f1, g', ?_, ?_⟩, ?_⟩
  · rw [r1, r3, d3, d4, d5, d6]
    exact hk s _ a2 (by intros; simp [plamp]) _
  · rw [r1, d1]
    exact hk _ _ b2 (by intros; simp [plamp, prow]) _
  · rw [r2, d1]; exact b3
  · intro q hqn
    rw [d1] at hqn
    rw [r2]
    refine ⟨(c1 q hqn).1, ?_⟩
    by_cases hqp : q = p
    · subst hqp
      rw [xwr_1, if_pos rfl]
    · obtain ⟨k1, k2, k3, k4, k5, k6, k7, k8, k9, k10, k11⟩ := hq q hqp
      rw [xwr_1, if_neg (fun h => hqp (hinj q p hqn hp h)), k1, k2, k3, k4, k5, k9, k10, k11]
      exact (c1 q hqn).2
  · intro q hqn
    rw [d1] at hqn
    by_cases hqp : q = p
    · subst hqp
      exact ⟨⟨hco hc.1.1 _, hc.1.2⟩, ⟨hco hc.2.1.1 _, hc.2.1.2⟩, hco hc.2.2.1 _, hc.2.2.2⟩
    · obtain ⟨k1, k2, k3, k4, k5, k6, k7, k8, k9, k10, k11⟩ := hq q hqp
      obtain ⟨⟨m1, m2⟩, ⟨m3, m4⟩, m5, m6⟩ := e1 q hqn
      rw [k6, k7, k8, k9, k10, k11]
      exact ⟨⟨hco m1 _, m2⟩, ⟨hco m3 _, m4⟩, hco m5 _, m6⟩
  · rw [r3, d2]
    exact hk _ _ f2 (by intros; simp [plamp, prow]) _
  · rw [r4, d2]; exact f3
  · intro q hqn
    rw [d2] at hqn
    rw [r4, d7, d8]
    obtain ⟨j1, c, j2, j3⟩ := i1 q hqn
    exact ⟨j1, c, hk _ _ j2 (by intros; simp [plamp]) _, j3⟩
/-- a cell beside the strip -/
theorem pS.wr (S : pS σ s R D cv dn en) (J : pJ lo hi s R D) (h1 : ¬ pin lo hi a) (h2 : pnx R D.n a) : pS (xwr σ a e) s R D cv dn en := by
  obtain ⟨⟨a1, a2⟩, ⟨b1, g, b2, b3⟩, c1, e1, ⟨f1, g', f2, f3⟩, i1⟩ := S
  obtain ⟨j1, j2, j3, ⟨j4, j5⟩, -⟩ := J
  have hk : ∀ b, b ≠ a → (xwr σ a e).1 b = σ.1 b := fun b hb => by rw [xwr_1, if_neg hb]
  have ne : ∀ b, pin lo hi b → b ≠ a := fun b hb h => h1 (h ▸ hb)
  refine ⟨⟨a1, by rw [hk _ (ne _ j1)]; exact a2⟩, ⟨b1, g, by rw [hk _ (ne _ j2)]; exact b2, b3⟩, fun p hp => ⟨(c1 p hp).1, by rw [hk _ (ne _ (j4 p hp))]; exact (c1 p hp).2⟩, fun p hp => ?_, ⟨f1, g', by rw [hk _ (ne _ j3)]; exact f2, f3⟩, fun q hq => ?_⟩
  · obtain ⟨n1, n2, n3⟩ := h2 p hp
    obtain ⟨⟨⟨m1, c, m2, m3⟩, m4⟩, ⟨⟨m5, c', m6, m7⟩, m8⟩, ⟨m9, c'', m10, m11⟩, m12⟩ := e1 p hp
    exact ⟨⟨⟨m1, c, by rw [hk _ n1]; exact m2, m3⟩, m4⟩, ⟨⟨m5, c', by rw [hk _ n2]; exact m6, m7⟩, m8⟩, ⟨m9, c'', by rw [hk _ n3]; exact m10, m11⟩, m12⟩
  · obtain ⟨m1, c, m2, m3⟩ := i1 q hq
    exact ⟨m1, c, by rw [hk _ (ne _ (j5 q hq))]; exact m2, m3⟩
theorem pZ_wr (Z : pZ σ) (h : σ.1 a = some e) : pZ (xwr σ a e') := fun b hb => by
  have h1 : σ.2.1.1 ≤ b := hb
  have h2 := pZ_lt Z h
  rw [xwr_1, if_neg (by omega)]
  exact Z b h1
theorem pZ_new {m : Nat} (Z : pZ σ) : pZ (xnew σ e m) := fun b hb => by
  rw [xnew_n] at hb
  rw [xnew_1, if_neg (by omega)]
  exact Z b (by omega)
/-- an own cell written -/
theorem pF_own (F : pF (pP lo hi σ0) c n σ0 σ) (Z : pZ σ) (h : σ.1 a = some e) (hc : ¬ pco e) (hi' : pin lo hi a) : pF (pP lo hi σ0) c n σ0 (xwr σ a e') := by
  obtain ⟨f1, f2, f3, f4⟩ := F
  have ha := pZ_lt Z h
  refine ⟨fun b hb hn => ?_, fun b hb => ?_, f3, f4⟩
  · rw [xwr_1, if_neg (fun q => hn ?_)]
    · exact f1 b hb hn
    · subst q
      refine ⟨hi', fun e1 h1 h2 => ?_⟩
      have := f1 b hb (fun q => q.2 e1 h1 h2)
      rw [h, h1] at this
      exact hc (Option.some.inj this ▸ h2)
  · have hb' : σ.2.1.1 ≤ b := hb
    rw [xwr_1, if_neg (by omega)]
    exact f2 b hb
theorem pF_hi {P : Nat → Prop} (F : pF P c n σ0 σ) (Z : pZ σ) (h : σ.1 a = some e) (hl : σ0.2.1.1 ≤ a) : pF P c n σ0 (xwr σ a e') := by
  obtain ⟨f1, f2, f3, f4⟩ := F
  have ha := pZ_lt Z h
  refine ⟨fun b hb hn => ?_, fun b hb => ?_, f3, f4⟩
  · rw [xwr_1, if_neg (by omega)]
    exact f1 b hb hn
  · have hb' : σ.2.1.1 ≤ b := hb
    rw [xwr_1, if_neg (by omega)]
    exact f2 b hb
theorem pF_al {P : Nat → Prop} {m : Nat} (F : pF P c n σ0 σ) : pF P (c + 1) (n + m) σ0 (xnew σ e m) :=
  pF.trans F (pF_new (P := pno) (n := m)) (fun _ _ q => q.elim id (fun r => r.elim))
theorem pF_rd {P : Nat → Prop} {c' n' : Nat} (F : pF P c n σ0 σ) (G : pF pno c' n' σ τ) : pF P (c + c') (n + n') σ0 τ :=
  pF.trans F G (fun _ _ q => q.elim id (fun r => r.elim))
theorem pF_co (F : pF (pP lo hi σ0) c n σ0 σ) (Z : pZ σ0) : ∀ b e, σ0.1 b = some e → pco e → σ.1 b = some e := fun b e h hc => by
  rw [F.1 b (pZ_lt Z h) (fun q => q.2 e h hc), h]
theorem pco_lamp {k pd bp fr og : Int32} {t u f : Nat} : ¬ pco (plamp k pd bp fr og t u f) := by
  rintro (⟨n, y, -, h⟩ | ⟨fs, h⟩)
  · simp [plamp] at h
  · simp [plamp] at h
theorem pco_strip {fs : List Value} : ¬ pco (.inr (12, fs)) := by
  rintro (⟨n, y, -, h⟩ | ⟨gs, h⟩)
  · simp at h
  · simp at h
theorem pC_new' {b m : Nat} {x : Int32} (Z : pZ σ) (h : pC σ b x) : pC (xnew σ e m) b x := by
  obtain ⟨h0, c, h1, h2⟩ := h
  have := pZ_lt Z h1
  exact ⟨h0, c, by rw [xnew_1, if_neg (by omega)]; exact h1, h2⟩
end
/-! ===== which pixels the row passes ===== -/
abbrev pct (D : yD) (p : Nat) : Nat := ycn (fun q => !D.bp q) p
theorem pct_b {D : yD} {p : Nat} (h : D.bp p = true) : pct D (p + 1) = pct D p := by
  show pct D p + (if (!D.bp p) = true then 1 else 0) = _
  rw [h]
  rfl
theorem pct_n {D : yD} {p : Nat} (h : D.bp p = false) : pct D (p + 1) = pct D p + 1 := by
  show pct D p + (if (!D.bp p) = true then 1 else 0) = _
  rw [h]
  rfl
theorem pct_nx {D : yD} : ∀ m p, pct D (ynx D.bp m p) = pct D p := by
  intro m
  induction m with
  | zero => intro p; rfl
  | succ m ih =>
    intro p
    simp only [ynx]
    cases hb : D.bp p
    · rfl
    · rw [if_pos rfl, ih (p + 1), pct_b hb]
theorem pct_lt {D : yD} {p q : Nat} (h : p < q) (hb : D.bp p = false) : pct D p < pct D q := ycn_lt h (by rw [hb]; rfl)
theorem pct_le {D : yD} {p : Nat} : pct D p ≤ p := ycn_le _
/-- how often each pixel got a frame: not more than M times -/
abbrev pfr (D : yD) (M : Nat) : Prop := ∀ p, p < D.n → ∃ k : Nat, k ≤ M ∧ D.fr p = yI k
theorem pgo_n : ∀ m p f (D : yD), (ygo m p f D).n = D.n := by
  intro m
  induction m with
  | zero => intro p f D; rfl
  | succ m ih =>
    intro p f D
    simp only [ygo]
    split
    · exact ih _ _ _
    · split
      · split
        · rfl
        · rw [ih]; rfl
      · rfl
theorem pgo_fr : ∀ m p f (D : yD) q, (ygo m p f D).fr q = D.fr q ∨ (p ≤ q ∧ (ygo m p f D).fr q = D.fr q + 1) := by
  intro m
  induction m with
  | zero => intro p f D q; exact Or.inl rfl
  | succ m ih =>
    intro p f D q
    simp only [ygo]
    split
    · rcases ih (p + 1) f D q with h | ⟨h1, h2⟩
      · exact Or.inl h
      · exact Or.inr ⟨by omega, h2⟩
    · split
      · split
        · by_cases hq : q = p
          · subst hq
            refine Or.inr ⟨Nat.le_refl _, ?_⟩
            show upd D.fr q (D.fr q + 1) q = _
            rw [yupd_same]
          · refine Or.inl ?_
            show upd D.fr p (D.fr p + 1) q = _
            rw [yupd_ne hq]
        · rename_i f' _ _
          have key : ∀ f', (ygo m (p + 1) f' (ytkS D p (D.du f) (yI f))).fr q = D.fr q ∨ (p ≤ q ∧ (ygo m (p + 1) f' (ytkS D p (D.du f) (yI f))).fr q = D.fr q + 1) := by
            intro f'
            have hz : (ytkS D p (D.du f) (yI f)).fr = upd D.fr p (D.fr p + 1) := rfl
            rcases ih (p + 1) f' (ytkS D p (D.du f) (yI f)) q with h | ⟨h1, h2⟩
            · rw [hz] at h
              by_cases hq : q = p
              · subst hq
                rw [yupd_same] at h
                exact Or.inr ⟨Nat.le_refl _, h⟩
              · rw [yupd_ne hq] at h
                exact Or.inl h
            · rw [hz, yupd_ne (by omega)] at h2
              exact Or.inr ⟨by omega, h2⟩
          exact key _
      · exact Or.inl rfl
theorem pfr_go {M m p f : Nat} {D : yD} (h : pfr D M) : pfr (ygo m p f D) (M + 1) := by
  intro q hq
  rw [pgo_n] at hq
  obtain ⟨k, hk, e⟩ := h q hq
  rcases pgo_fr m p f D q with h1 | ⟨-, h1⟩
  · exact ⟨k, by omega, by rw [h1, e]⟩
  · exact ⟨k + 1, by omega, by rw [h1, e]; exact yI_add⟩

/-! ===== the small machine by its steps ===== -/
theorem ax_up : ∀ (n d k i : Nat) (ls : xL) (st : List Value) (σ : xS) (q : xR × xS), ax n d k i ls st σ = some q → ax (n + 1) d k i ls st σ = some q := by
  intro n
  induction n with
  | zero => intro d k i ls st σ q h; cases h
  | succ n ih =>
    intro d k i ls st σ q h
    rw [ax] at h ⊢
    split at h
    · cases h
    · rename_i q0 hq0
      split at h
      · cases h
      · rename_i i' ls' st' σ' hst
        exact ih _ _ _ _ _ _ _ h
      · rename_i k' as rest hst
        cases d with
        | zero => cases h
        | succ d' =>
          simp only at h ⊢
          split at h
          · cases h
          · rename_i v σ1 h1
            rw [ih _ _ _ _ _ _ _ h1]
            exact ih _ _ _ _ _ _ _ h
          · rename_i a σ1 h1
            rw [ih _ _ _ _ _ _ _ h1]
            split at h
            · cases h
            · rename_i hd hhd
              simp only [hhd]
              exact ih _ _ _ _ _ _ _ h
      · exact h
      · exact h
theorem ax_le {n m : Nat} (hnm : n ≤ m) {d k i : Nat} {ls : xL} {st : List Value} {σ : xS} {q : xR × xS} (h : ax n d k i ls st σ = some q) : ax m d k i ls st σ = some q := by
  induction hnm with
  | refl => exact h
  | step _ ih => exact ax_up _ _ _ _ _ _ _ _ ih
theorem ax_det {n m : Nat} {d k i : Nat} {ls : xL} {st : List Value} {σ : xS} {q q' : xR × xS} (h : ax n d k i ls st σ = some q) (h' : ax m d k i ls st σ = some q') : q = q' := by
  have h1 := ax_le (Nat.le_max_left n m) h
  have h2 := ax_le (Nat.le_max_right n m) h'
  exact Option.some.inj (h1.symm.trans h2)
/-- from place i of method k on, with these locals, stack and cells, the run ends and Q holds of what comes out -/
def G (d k i : Nat) (ls : xL) (st : List Value) (σ : xS) (Q : xR → xS → Prop) : Prop := ∃ (n : Nat) (r : xR) (σ' : xS), ax n d k i ls st σ = some (r, σ') ∧ Q r σ'
/-- a call -/
def Cl (d k : Nat) (as : List Value) (σ : xS) (Q : xR → xS → Prop) : Prop := G d k 0 (xentry as (xmlf k)) [] σ Q
/-- what a call comes to -/
def Rs (d k : Nat) (as : List Value) (σ : xS) (r : xR) (σ' : xS) : Prop := Cl d k as σ (fun r1 σ1 => r1 = r ∧ σ1 = σ')
theorem Rs.iff {d k : Nat} {as : List Value} {σ σ' : xS} {r : xR} {Q : xR → xS → Prop} (h : Rs d k as σ r σ') : Cl d k as σ Q ↔ Q r σ' := by
  obtain ⟨n, r1, s1, h1, rfl, rfl⟩ := h
  constructor
  · rintro ⟨n2, r2, s2, h2, hq⟩
    have := ax_det h1 h2
    cases this
    exact hq
  · intro hq
    exact ⟨n, _, _, h1, hq⟩
theorem Rs.to {d k : Nat} {as : List Value} {σ σ' : xS} {r : xR} {Q : xR → xS → Prop} (h : Rs d k as σ r σ') (hq : Q r σ') : Cl d k as σ Q := h.iff.mpr hq
theorem G.imp {d k i : Nat} {ls : xL} {st : List Value} {σ : xS} {Q Q' : xR → xS → Prop} (h : G d k i ls st σ Q) (hq : ∀ r σ', Q r σ' → Q' r σ') : G d k i ls st σ Q' := by
  obtain ⟨n, r, s1, h1, h2⟩ := h
  exact ⟨n, r, s1, h1, hq _ _ h2⟩
/-- behind a call -/
def Gk (d k i : Nat) (ls : xL) (rest : List Value) (Q : xR → xS → Prop) : xR → xS → Prop := fun r σ1 => match r with
  | .inl v => G d k (i + 1) ls (v.toList ++ rest) σ1 Q
  | .inr e => match xhd k i e with
    | none => False
    | some h => G d k h.1 ((xkill ls h.2).set h.2 none) [] σ1 Q
def Gs (d k i : Nat) (ls : xL) (σ : xS) (Q : xR → xS → Prop) : Option xA → Prop
  | none => False
  | some (.inl (i', ls', st', σ')) => G d k i' ls' st' σ' Q
  | some (.inr (.inl (k', as, rest))) => match d with
    | 0 => False
    | d' + 1 => Cl d' k' as σ (Gk (d' + 1) k i ls rest Q)
  | some (.inr (.inr r)) => Q r (xbump r σ)
theorem G_eq {d k i : Nat} {ls : xL} {st : List Value} {σ : xS} {Q : xR → xS → Prop} {q : xI} (hq : ft k i = some q) : G d k i ls st σ Q ↔ Gs d k i ls σ Q (stp k i q.2.1 q.2.2 ls st σ) := by
  constructor
  · rintro ⟨n, r, σ', h, hQ⟩
    cases n with
    | zero => cases h
    | succ n =>
      rw [ax, hq] at h
      simp only at h
      split at h
      · cases h
      · rename_i i' ls' st' σ1 hst
        rw [hst]
        exact ⟨n, r, σ', h, hQ⟩
      · rename_i k' as rest hst
        rw [hst]
        cases d with
        | zero => cases h
        | succ d' =>
          simp only at h
          split at h
          · cases h
          · rename_i v σ1 h1
            exact ⟨n, _, _, h1, ⟨n, r, σ', h, hQ⟩⟩
          · rename_i a σ1 h1
            refine ⟨n, _, _, h1, ?_⟩
            split at h
            · cases h
            · rename_i hd hhd
              simp only [Gk, hhd]
              exact ⟨n, r, σ', h, hQ⟩
      · rename_i v hst
        rw [hst]
        cases h
        exact hQ
      · rename_i a hst
        rw [hst]
        cases h
        exact hQ
  · intro h
    generalize hst : stp k i q.2.1 q.2.2 ls st σ = o at h
    match o, h with
    | none, h => exact h.elim
    | some (.inl (i', ls', st', σ1)), h =>
      obtain ⟨n, r, σ', h1, hQ⟩ := h
      refine ⟨n + 1, r, σ', ?_, hQ⟩
      rw [ax, hq]
      simp only [hst]
      exact h1
    | some (.inr (.inl (k', as, rest))), h =>
      cases d with
      | zero => exact h.elim
      | succ d' =>
        obtain ⟨n1, r1, σ1, h1, h2⟩ := h
        match r1, h2, h1 with
        | .inl v, h2, h1 =>
          obtain ⟨n2, r, σ', h3, hQ⟩ := h2
          refine ⟨max n1 n2 + 1, r, σ', ?_, hQ⟩
          rw [ax, hq]
          simp only [hst]
          rw [ax_le (Nat.le_max_left n1 n2) h1]
          exact ax_le (Nat.le_max_right n1 n2) h3
        | .inr a, h2, h1 =>
          simp only [Gk] at h2
          split at h2
          · exact h2.elim
          · rename_i hd hhd
            obtain ⟨n2, r, σ', h3, hQ⟩ := h2
            refine ⟨max n1 n2 + 1, r, σ', ?_, hQ⟩
            rw [ax, hq]
            simp only [hst]
            rw [ax_le (Nat.le_max_left n1 n2) h1]
            simp only [hhd]
            exact ax_le (Nat.le_max_right n1 n2) h3
    | some (.inr (.inr (.inl v))), h =>
      refine ⟨1, .inl v, σ, ?_, h⟩
      rw [ax, hq]
      simp only [hst]
    | some (.inr (.inr (.inr a))), h =>
      refine ⟨1, .inr a, _, ?_, h⟩
      rw [ax, hq]
      simp only [hst]
      rfl

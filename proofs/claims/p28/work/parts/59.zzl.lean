/-! ===== the law's loop: deeper calls, what no step touches, the script's reads ===== -/
theorem ax_dp : ∀ (n d k i : Nat) (ls : xL) (st : List Value) (σ : xS) (q : xR × xS), ax n d k i ls st σ = some q → ax n (d + 1) k i ls st σ = some q := by
  intro n
  induction n with
  | zero => intro d k i ls st σ q h; cases h
  | succ n ih =>
    intro d k i ls st σ q h
    rw [ax] at h ⊢
    split at h
    · cases h
    · rename_i q0 hq0
      split at h
      · cases h
      · rename_i i' ls' st' σ' hst
        exact ih _ _ _ _ _ _ _ h
      · rename_i k' as rest hst
        cases d with
        | zero => cases h
        | succ d' =>
          simp only at h ⊢
          split at h
          · cases h
          · rename_i v σ1 h1
            rw [ih _ _ _ _ _ _ _ h1]
            exact ih _ _ _ _ _ _ _ h
          · rename_i a σ1 h1
            rw [ih _ _ _ _ _ _ _ h1]
            split at h
            · cases h
            · rename_i hd hhd
              simp only [hhd]
              exact ih _ _ _ _ _ _ _ h
      · exact h
      · exact h
theorem ax_dle {n d d' k i : Nat} {ls : xL} {st : List Value} {σ : xS} {q : xR × xS} (hd : d ≤ d') (h : ax n d k i ls st σ = some q) : ax n d' k i ls st σ = some q := by
  induction hd with
  | refl => exact h
  | step _ ih => exact ax_dp _ _ _ _ _ _ _ _ ih
theorem Ra_le {d d' k : Nat} {as : List Value} {σ σ' : xS} {r : xR} (h : Ra d k as σ r σ') (hd : d ≤ d') : Ra d' k as σ r σ' := by
  obtain ⟨n, r1, s1, h1, h2, h3⟩ := (h (fun r1 σ1 => r1 = r ∧ σ1 = σ')).mpr ⟨rfl, rfl⟩
  exact fun Q => Rs.iff ⟨n, r1, s1, ax_dle hd h1, h2, h3⟩
theorem ax_z : ∀ (n d k i : Nat) (ls : xL) (st : List Value) (σ : xS) (r : xR) (σ' : xS), ax n d k i ls st σ = some (r, σ') → σ'.2.2 = σ.2.2 := fun n d k i ls st σ r σ' h => (xmonoR _ _ _ _ _ _ _ _ _ h).2.2
theorem Ra_z {d k : Nat} {as : List Value} {t u : yT} {r : xR} (h : Ra d k as (yemb t) r (yemb u)) : u.z.2 = t.z.2 := by
  obtain ⟨n, r1, s1, h1, h2, h3⟩ := (h (fun r1 σ1 => r1 = r ∧ σ1 = yemb u)).mpr ⟨rfl, rfl⟩
  have := ax_z _ _ _ _ _ _ _ _ _ h1
  rw [h3] at this
  exact this
section
variable {d k i pc : Nat} {aux : List Int} {ls : xL} {r : List Value} {t : yT} {Q : xR → xS → Prop}
theorem xrd_scr (σ : xS) : xRd σ 1000000 = some (.inl (0, (σ.2.2.1, .inl σ.2.2.2))) := rfl
end
theorem lg_cmp_self {x : Int64} : lg_cmp x x = 0 := by
  unfold lg_cmp
  rw [if_neg (by exact fun h => absurd h (Int64.lt_irrefl)), if_pos rfl]
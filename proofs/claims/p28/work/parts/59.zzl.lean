/-! ===== the law's loop: deeper calls, what no step touches, the script's reads ===== -/
theorem ax_dp : ∀ (n d k i : Nat) (ls : xL) (st : List Value) (σ : xS) (q : xR × xS), ax n d k i ls st σ = some q → ax n (d + 1) k i ls st σ = some q := by
  intro n
  induction n with
  | zero => intro d k i ls st σ q h; cases h
  | succ n ih =>
    intro d k i ls st σ q h
    rw [ax] at h ⊢
    split at h
    · cases h
    · rename_i q0 hq0
      split at h
      · cases h
      · rename_i i' ls' st' σ' hst
        exact ih _ _ _ _ _ _ _ h
      · rename_i k' as rest hst
        cases d with
        | zero => cases h
        | succ d' =>
          simp only at h ⊢
          split at h
          · cases h
          · rename_i v σ1 h1
            rw [ih _ _ _ _ _ _ _ h1]
            exact ih _ _ _ _ _ _ _ h
          · rename_i a σ1 h1
            rw [ih _ _ _ _ _ _ _ h1]
            split at h
            · cases h
            · rename_i hd hhd
              simp only [hhd]
              exact ih _ _ _ _ _ _ _ h
      · exact h
      · exact h
theorem ax_dle {n d d' k i : Nat} {ls : xL} {st : List Value} {σ : xS} {q : xR × xS} (hd : d ≤ d') (h : ax n d k i ls st σ = some q) : ax n d' k i ls st σ = some q := by
  induction hd with
  | refl => exact h
  | step _ ih => exact ax_dp _ _ _ _ _ _ _ _ ih
theorem Ra_le {d d' k : Nat} {as : List Value} {σ σ' : xS} {r : xR} (h : Ra d k as σ r σ') (hd : d ≤ d') : Ra d' k as σ r σ' := by
  obtain ⟨n, r1, s1, h1, h2, h3⟩ := (h (fun r1 σ1 => r1 = r ∧ σ1 = σ')).mpr ⟨rfl, rfl⟩
  exact fun Q => Rs.iff ⟨n, r1, s1, ax_dle hd h1, h2, h3⟩
theorem stp_z {k i : Nat} {ins : Instr} {aux : List Int} {ls ls' : xL} {st st' : List Value} {σ σ' : xS} {i' : Nat} (h : stp k i ins aux ls st σ = some (.inl (i', ls', st', σ'))) : σ'.2.2 = σ.2.2 := by
  cases ins <;> first | (cases h; done) | skip
  all_goals simp only [stp, xpush, xloadI, xloadL, xloadD, xloadA, xstoreI, xstoreL, xstoreD, xstoreA, xII, xLL, xLI, xIf, xIc, xaldI, xaldB, xaldL, xaldA, xastI, xastB, xastL, xastA, xget, xput, xalloc, xgo, xinv, xcopy, xcall, xret] at h
  all_goals (repeat' (split at h))
  all_goals first | (cases h; done) | (cases h; rfl)
theorem ax_z : ∀ (n d k i : Nat) (ls : xL) (st : List Value) (σ : xS) (r : xR) (σ' : xS), ax n d k i ls st σ = some (r, σ') → σ'.2.2 = σ.2.2 := by
  intro n
  induction n with
  | zero => intro d k i ls st σ r σ' h; cases h
  | succ n ih =>
    intro d k i ls st σ r σ' h
    rw [ax] at h
    split at h
    · cases h
    · rename_i q0 hq0
      split at h
      · cases h
      · rename_i i' ls' st' σ1 hst
        rw [ih _ _ _ _ _ _ _ _ h]
        exact stp_z hst
      · rename_i k' as rest hst
        cases d with
        | zero => cases h
        | succ d' =>
          simp only at h
          split at h
          · cases h
          · rename_i v σ1 h1
            rw [ih _ _ _ _ _ _ _ _ h]
            exact ih _ _ _ _ _ _ _ _ h1
          · rename_i a σ1 h1
            split at h
            · cases h
            · rename_i hd hhd
              rw [ih _ _ _ _ _ _ _ _ h]
              exact ih _ _ _ _ _ _ _ _ h1
      · cases h; rfl
      · cases h; rfl
theorem Ra_z {d k : Nat} {as : List Value} {t u : yT} {r : xR} (h : Ra d k as (yemb t) r (yemb u)) : u.z.2 = t.z.2 := by
  obtain ⟨n, r1, s1, h1, h2, h3⟩ := (h (fun r1 σ1 => r1 = r ∧ σ1 = yemb u)).mpr ⟨rfl, rfl⟩
  have := ax_z _ _ _ _ _ _ _ _ _ h1
  rw [h3] at this
  exact this
section
variable {d k i pc : Nat} {aux : List Int} {ls : xL} {r : List Value} {t : yT} {Q : xR → xS → Prop}
theorem xrd_scr (σ : xS) : xRd σ 1000000 = some (.inl (0, (σ.2.2.1, .inl σ.2.2.2))) := rfl
theorem gs_scr {x : Int32} (hf : ft k i = some (pc, .iaload, aux)) : G d k i ls (.int x :: .ref 1000000 :: r) (yemb t) Q ↔ yix x t.z.2.1 ∧ G d k (i + 1) ls (.int (t.z.2.2 x.toNatClampNeg) :: r) (yemb t) Q := by
  rw [G_eq hf]
  show Gs d k i ls (yemb t) Q (xaldI 0 i ls (.int x :: .ref 1000000 :: r) (yemb t)) ↔ _
  unfold xaldI yix
  have e : xRd (yemb t) 1000000 = some (.inl (0, (t.z.2.1, .inl t.z.2.2))) := rfl
  simp only [e, true_and]
  split <;> rename_i h <;> simp only [Gs, h, true_and, not_true_eq_false, false_and, not_false_eq_true]
theorem gs_scl (hf : ft k i = some (pc, .arraylength, aux)) : G d k i ls (.ref 1000000 :: r) (yemb t) Q ↔ G d k (i + 1) ls (.int (Int32.ofNat t.z.2.1) :: r) (yemb t) Q := by
  refine gs_go hf ?_
  rfl
end
theorem lg_cmp_self {x : Int64} : lg_cmp x x = 0 := by
  unfold lg_cmp
  rw [if_neg (by exact fun h => absurd h (Int64.lt_irrefl)), if_pos rfl]
theorem ykey (x : Int32) : ∃ n, n < 32 ∧ x &&& 31 = yI n := by
  refine ⟨(x &&& 31).toBitVec.toNat, ?_, ?_⟩
  · have h : (x &&& 31).toBitVec.toNat = x.toBitVec.toNat &&& 31 := BitVec.toNat_and _ _
    rw [h]
    exact Nat.lt_of_le_of_lt Nat.and_le_right (by decide)
  · apply Int32.toBitVec_inj.mp
    apply BitVec.eq_of_toNat_eq
    show _ = (BitVec.ofNat 32 _).toNat
    rw [BitVec.toNat_ofNat, Nat.mod_eq_of_lt (BitVec.isLt _)]
/-- a case of the loop, from its place to the loop's end -/
abbrev yStep (t u : yT) : Prop := yInv u ∧ ((u.z.1.1 ≤ t.z.1.1 + 3 ∧ u.z.1.2 ≤ t.z.1.2 + 700) ∧ u.z.2 = t.z.2)
abbrev yCase (D P : Nat) (t : yT) (i : Nat) : Prop := ∀ l5 l6 l7 l8 : Option Value, ∃ (u : yT) (l5' l6' l7' l8' : Option Value), Gg D 244 P [some (.ref 1000000), some (.ref 0), some (.ref 160), some (.ref 183), some (.int (yI i)), l5, l6, l7, l8] [] (yemb t) 879 [some (.ref 1000000), some (.ref 0), some (.ref 160), some (.ref 183), some (.int (yI i)), l5', l6', l7', l8'] [] (yemb u) ∧ yStep t u

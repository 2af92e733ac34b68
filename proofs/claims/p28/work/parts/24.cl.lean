section
variable {d k i k' na kind : Nat} {pc : Nat} {ins : Instr} {aux : List Int} {ls : xL} {st r : List Value} {σ : xS} {t : yT} {Q : xR → xS → Prop}
theorem gs_call {c : Prop} [Decidable c] {as rest : List Value} (hf : ft k i = some (pc, ins, aux)) (h : stp k i ins aux ls st σ = if c then some (.inr (.inl (k', as, rest))) else none) : G (d + 1) k i ls st σ Q ↔ c ∧ Cl d k' as σ (Gk (d + 1) k i ls rest Q) := by
  rw [G_eq hf]
  show Gs (d + 1) k i ls σ Q (stp k i ins aux ls st σ) ↔ _
  rw [h]
  by_cases hc : c <;> simp [hc, Gs]
theorem xcall_st (as : List Value) (hl : as.length = na) (hk : kind = 1 ∨ kind = 4 ∨ kind = 6) (hx : (xargs as.reverse).length ≤ xmlf k') : xcall k' na kind (as ++ r) σ = if xcat r ≤ 8 then some (.inr (.inl (k', as.reverse, r))) else none := by
  subst hl
  unfold xcall
  rw [List.take_left, List.drop_left, if_pos hk, List.length_append]
  by_cases h : xcat r ≤ 8
  · rw [if_pos ⟨by omega, h, hx⟩, if_pos h]
  · rw [if_neg (fun hh => h hh.2.1), if_neg h]
theorem xcall_vg (as : List Value) {a c : Nat} {bs : List Value} {fs : List Value} (hl : as.length = na) (hr : as.reverse = .ref a :: bs) (hx : (xargs as.reverse).length ≤ xmlf k') (hc : xcxf k' = c) (ho : xRd σ a = some (.inr (c, fs))) : xcall k' na kind (as ++ r) σ = if xcat r ≤ 8 then some (.inr (.inl (k', as.reverse, r))) else none := by
  subst hl
  unfold xcall
  rw [List.take_left, List.drop_left, List.length_append]
  by_cases h : xcat r ≤ 8
  · rw [if_pos ⟨by omega, h, hx⟩, if_pos h, hr]
    simp only [ho, hc, if_true]
    split <;> rfl
  · rw [if_neg (fun hh => h hh.2.1), if_neg h]
theorem xcall_vi (as : List Value) {a c : Nat} {bs : List Value} (hl : as.length = na) (hr : as.reverse = .ref a :: bs) (hx : (xargs as.reverse).length ≤ xmlf k') (hc : xcxf k' = c) (ho : yisO c a) : xcall k' na kind (as ++ r) (yemb t) = if xcat r ≤ 8 then some (.inr (.inl (k', as.reverse, r))) else none := by
  subst hl
  unfold xcall
  rw [List.take_left, List.drop_left, List.length_append]
  by_cases h : xcat r ≤ 8
  · rw [if_pos ⟨by omega, h, hx⟩, if_pos h, hr]
    simp only [yrd_o ho, hc, if_true]
    split <;> rfl
  · rw [if_neg (fun hh => h hh.2.1), if_neg h]
theorem xinv_call {n : Int} (hk : kind ≤ 9) : xinv i [(k' : Int), (na : Int), (kind : Int), n] ls st σ = xcall k' na kind st σ := by
  unfold xinv
  simp only [Int.toNat_natCast]
  rw [if_neg (by omega), if_neg (by omega), if_neg (by omega), if_neg (by omega), if_neg (by omega), if_neg (by omega), if_neg (by omega), if_pos (by omega)]
theorem Gk_v {d k i : Nat} {v : Value} {rest : List Value} : Gk d k i ls rest Q (.inl (some v)) σ = G d k (i + 1) ls (v :: rest) σ Q := rfl
theorem Gk_n {d k i : Nat} {rest : List Value} : Gk d k i ls rest Q (.inl none) σ = G d k (i + 1) ls rest σ Q := rfl
end
theorem xcat_nil : xcat [] = 0 := rfl
theorem xcat_i {x : Int32} {r : List Value} : xcat (.int x :: r) = 1 + xcat r := rfl
theorem xcat_l {x : Int64} {r : List Value} : xcat (.long x :: r) = 2 + xcat r := rfl
theorem xcat_d {x : UInt64} {r : List Value} : xcat (.double x :: r) = 2 + xcat r := rfl
theorem xcat_r {x : Nat} {r : List Value} : xcat (.ref x :: r) = 1 + xcat r := rfl
theorem ykl_n : ykl none = none := rfl
theorem ykl_i {x : Int32} : ykl (some (.int x)) = some (.int x) := rfl
theorem ykl_r {x : Nat} : ykl (some (.ref x)) = some (.ref x) := rfl
theorem ykl_l {x : Int64} : ykl (some (.long x)) = none := rfl
theorem ykl_d {x : UInt64} : ykl (some (.double x)) = none := rfl
theorem yfb {x : Int32} (h : ybo x) : fits .boolean (.int x) = true := by
  unfold ybo at h
  have h1 : x &&& 1 = x := by
    have h2 := h
    simp [narrow] at h2
    exact h2
  have h3 : x.toBitVec &&& 1#32 = x.toBitVec := by
    have := congrArg Int32.toBitVec h1
    simpa using this
  have h4 : x.toBitVec.toNat % 2 = x.toBitVec.toNat := by
    have := congrArg BitVec.toNat h3
    rw [BitVec.toNat_and] at this
    simpa [Nat.and_one_is_mod] using this
  have h5 : x.toBitVec.toNat < 2 := by omega
  have h6 : x = 0 ∨ x = 1 := by
    rcases (by omega : x.toBitVec.toNat = 0 ∨ x.toBitVec.toNat = 1) with h | h
    · left
      apply Int32.toBitVec_inj.mp
      exact BitVec.eq_of_toNat_eq h
    · right
      apply Int32.toBitVec_inj.mp
      exact BitVec.eq_of_toNat_eq h
  rcases h6 with h | h <;> subst h <;> rfl

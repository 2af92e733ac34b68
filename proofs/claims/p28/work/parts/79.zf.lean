/-! ===== curves as texts ===== -/
def psep (q : Nat) : Nat := if q = 2 then 22 else if q = 3 then 17 else if q = 4 then 21 else 23
def pown (q : Nat) : Nat := if q < 4 then 1 else 2
/-- a binary node's text: its sides', in brackets where its level asks for them -/
def pbin (q lev : Nat) (wb wc : List Nat) : List Nat := if pown q < lev then 40 :: ((wb ++ ptw (psep q)) ++ wc) ++ [41] else (wb ++ ptw (psep q)) ++ wc
/-- the node at a has the text w at the level lev, and the items l -/
def pNt (σ : xS) : Nat → Nat → Nat → List Nat → List Int32 → Prop
  | 0, _, _, _, _ => False
  | k + 1, a, lev, w, l => a < 1000000 ∧ ∃ (kd nm : Int32) (u v : Value), σ.1 a = some (.inr (10, [.int kd, .int nm, u, v])) ∧ ((kd = 0 ∧ ∃ m : Nat, m < 10000 ∧ (nm = yI m ∧ (l = [yI m] ∧ w = pdec m))) ∨ ((kd = 1 ∧ ((nm = 0 ∧ (l = [-1] ∧ w = ptw 13)) ∨ (nm = 1 ∧ (l = [-2] ∧ w = ptw 7)))) ∨ ∃ q : Nat, ((2 ≤ q ∧ q ≤ 5) ∧ kd = yI q) ∧ ∃ b c lb lc wb wc, (u = .ref b ∧ v = .ref c) ∧ (pNt σ k b (pown q) wb lb ∧ (pNt σ k c (pown q + 1) wc lc ∧ (l = lb ++ lc ++ [-1 - kd] ∧ w = pbin q lev wb wc)))))
theorem pNt_no {σ τ : xS} (Z : ∀ b e, σ.1 b = some e → pco e → τ.1 b = some e) : ∀ k a lev w l, pNt σ k a lev w l → pNt τ k a lev w l := by
  intro k
  induction k with
  | zero => intro a lev w l h; exact h
  | succ k ih =>
    intro a lev w l h
    obtain ⟨ha, kd, nm, u, v, hc, h⟩ := h
    refine ⟨ha, kd, nm, u, v, Z a _ hc (Or.inr ⟨_, rfl⟩), ?_⟩
    rcases h with h | h | ⟨q, h1, b, c, lb, lc, wb, wc, h2, h3, h4, h5⟩
    · exact Or.inl h
    · exact Or.inr (Or.inl h)
    · exact Or.inr (Or.inr ⟨q, h1, b, c, lb, lc, wb, wc, h2, ih _ _ _ _ h3, ih _ _ _ _ h4, h5⟩)
theorem pNt_of {σ : xS} : ∀ k a l, pV σ k a l → ∀ lev, ∃ w, pNt σ k a lev w l := by
  intro k
  induction k with
  | zero => intro a l h; exact h.elim
  | succ k ih =>
    intro a l h lev
    obtain ⟨ha, kd, nm, u, v, hc, h⟩ := h
    rcases h with ⟨h1, m, h2, h3, h4⟩ | ⟨h1, ⟨h2, h3⟩ | ⟨h2, h3⟩⟩ | ⟨h1, b, c, lb, lc, h2, h3, h4, h5⟩
    · exact ⟨pdec m, ha, kd, nm, u, v, hc, Or.inl ⟨h1, m, h2, h3, h4, rfl⟩⟩
    · exact ⟨ptw 13, ha, kd, nm, u, v, hc, Or.inr (Or.inl ⟨h1, Or.inl ⟨h2, h3, rfl⟩⟩)⟩
    · exact ⟨ptw 7, ha, kd, nm, u, v, hc, Or.inr (Or.inl ⟨h1, Or.inr ⟨h2, h3, rfl⟩⟩)⟩
    · obtain ⟨q, hq, hk⟩ : ∃ q : Nat, (2 ≤ q ∧ q ≤ 5) ∧ kd = yI q := by
        rcases h1 with rfl | rfl | rfl | rfl
        · exact ⟨2, by decide, rfl⟩
        · exact ⟨3, by decide, rfl⟩
        · exact ⟨4, by decide, rfl⟩
        · exact ⟨5, by decide, rfl⟩
      obtain ⟨wb, h6⟩ := ih b lb h3 (pown q)
      obtain ⟨wc, h7⟩ := ih c lc h4 (pown q + 1)
      exact ⟨pbin q lev wb wc, ha, kd, nm, u, v, hc, Or.inr (Or.inr ⟨q, ⟨hq, hk⟩, b, c, lb, lc, wb, wc, h2, h6, h7, h5, rfl⟩)⟩
theorem psep_len {q : Nat} (hq : 2 ≤ q ∧ q ≤ 5) : (ptw (psep q)).length ≤ 3 ∧ (psep q < 26) := by
  rcases (by omega : q = 2 ∨ (q = 3 ∨ (q = 4 ∨ q = 5))) with rfl | rfl | rfl | rfl <;> decide
theorem pbin_len {q lev : Nat} {wb wc : List Nat} (hq : 2 ≤ q ∧ q ≤ 5) : (pbin q lev wb wc).length ≤ wb.length + wc.length + 5 := by
  have h := (psep_len hq).1
  unfold pbin
  split
  · simp only [List.length_append, List.length_cons, List.length_nil]
    omega
  · simp only [List.length_append]
    omega
theorem pNt_len {σ : xS} : ∀ k a lev w l, pNt σ k a lev w l → w.length + 5 ≤ 5 * 2 ^ k := by
  intro k
  induction k with
  | zero => intro a lev w l h; exact h.elim
  | succ k ih =>
    intro a lev w l h
    have hp : 1 ≤ 2 ^ k := Nat.pos_of_ne_zero (by exact Nat.ne_of_gt (Nat.pow_pos (by decide)))
    rw [Nat.pow_succ]
    obtain ⟨ha, kd, nm, u, v, hc, h⟩ := h
    rcases h with ⟨-, m, -, -, -, rfl⟩ | ⟨-, ⟨-, -, rfl⟩ | ⟨-, -, rfl⟩⟩ | ⟨q, ⟨hq, -⟩, b, c, lb, lc, wb, wc, -, h3, h4, -, rfl⟩
    · have := pdec_len (n := m)
      omega
    · have : (ptw 13).length = 1 := by decide
      omega
    · have : (ptw 7).length = 5 := by decide
      omega
    · have h5 := ih _ _ _ _ h3
      have h6 := ih _ _ _ _ h4
      have h7 := pbin_len (lev := lev) (wb := wb) (wc := wc) hq
      omega
section
variable {d : Nat} {σ0 σ τ : xS} {c x a v cap s vs : Nat} {w u : List Nat}
theorem pSB.no {c' x' : Nat} (S : pSB σ0 c x σ a v w cap) (F : pF pno c' x' σ τ) : pSB σ0 (c + c') (x + x') τ a v w cap := by
  obtain ⟨⟨F0, Z⟩, q2, ⟨q3, q4⟩, ⟨f, q5, q6⟩, q7⟩ := S
  exact ⟨⟨pF_rd F0 F, pZ_F Z F⟩, q2, ⟨pF_keep Z F q3 id, q4⟩, ⟨f, pF_keep Z F q5 id, q6⟩, q7⟩
theorem pTy_lt {k : Nat} (T : pTy σ s vs w) (Z : pZ σ) : vs < 1000000 → vs < σ.2.1.1 := fun h => by
  obtain ⟨f, tl, ⟨h1, h2⟩, -⟩ := T
  rw [yrd_lt h] at h2
  exact pZ_lt Z h2
theorem haa_9 {a i : Nat} {x : Int32} {n : Nat} {g : Nat → Option Nat} {F : Value → Prop} (ha : 1000003 ≤ a ∧ a < 1000006) (hx : yix x n) (hg : g x.toNatClampNeg = some i) : haa a x (some (.inl (9, (n, .inr (.inr (.inr (.inr g))))))) F ↔ F (.ref i) := by
  have h : 1000000 ≤ a := by omega
  unfold haa
  simp [hx, hg, h]
theorem xRd_rows {i : Nat} (hi : i < 3) : xRd σ (1000003 + i) = some (.inl (9, ((xrows i).length, .inr (.inr (.inr (.inr (fun j => ((xrows i)[j]?).map (fun z => 1000100 + z)))))))) := by
  unfold xRd xExt
  rw [if_neg (by omega), if_neg (by omega), if_neg (by omega), if_neg (by omega), if_pos (by omega), show 1000003 + i - 1000003 = i by omega]
end

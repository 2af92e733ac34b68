/-! ===== strips: what sendRow leaves ===== -/
theorem yT_ext {t u : yT} (hA : t.A = u.A) (hL : t.L = u.L) (hR : t.R = u.R) (hK : t.K = u.K) (hz : t.z = u.z) : t = u := by
  cases t
  cases u
  cases hA
  cases hL
  cases hR
  cases hK
  cases hz
  rfl
theorem ysA_sA {t : yT} {a : Nat} {f g : Nat → Int32} : (t.sA a f).sA a g = t.sA a g := by
  apply yT_ext <;> try rfl
  funext b
  simp only [yT.sA]
  split <;> rfl
theorem ysA_same {t : yT} {a : Nat} {f : Nat → Int32} : (t.sA a f).A a = f := by
  simp [yT.sA]
theorem ysA_ne {t : yT} {a b : Nat} {f : Nat → Int32} (h : b ≠ a) : (t.sA a f).A b = t.A b := by
  simp [yT.sA, h]
theorem ysA_self {t : yT} {a : Nat} : t.sA a (t.A a) = t := by
  apply yT_ext <;> try rfl
  funext b
  simp only [yT.sA]
  split
  · rename_i h
    rw [h]
  · rfl
/-- the row that is sent -/
def yrw (D : yD) (s : Int64) : Nat → Nat → Nat → (Nat → Int32) → (Nat → Int32)
  | 0, _, _, r => r
  | n + 1, p, first, r => if first < D.n then (if yin s (yI p) = true then yrw D s n (p + 1) first (upd r p (-1)) else yrw D s n (p + 1) (ybeg D s p first) (upd (upd r p (-1)) p (yI first))) else yrw D s n (p + 1) first (upd r p (-1))
theorem yrowF_eq {D : yD} {s : Int64} {o : Nat} : ∀ n p first (t : yT), yrowF D s o n p first t = t.sA (o + 10) (yrw D s n p first (t.A (o + 10))) := by
  intro n
  induction n with
  | zero =>
    intro p first t
    exact ysA_self.symm
  | succ n ih =>
    intro p first t
    simp only [yrowF, yrw, ih, yT.s1, ysA_sA, ysA_same]
    split
    · split <;> rfl
    · rfl
section
variable {d o : Nat} {D : yD} {t : yT} {Q : xR → xS → Prop}
/-- the row behind sendRow -/
def ysent (D : yD) (s : Int64) (r : Nat → Int32) : Nat → Int32 := yrw D s D.n 0 (ynext D s D.n 0) r
theorem m_55 (W : yW t o D) {s : Int64} : Cl (d + 2) 55 [.ref o, .long s] (yemb t) Q ↔ Q (.inl none) (yemb (t.sA (o + 10) (ysent D s (t.A (o + 10))))) := by
  have h0 : (-1 : Int32) + 1 = yI 0 := by decide
  have hl := ynext_le (D := D) (s := s) D.n 0
  show G (d + 2) 55 0 [some (.ref o), some (.long s), none, none, none] [] (yemb t) Q ↔ _
  simp only [s_55_0, s_55_1, s_55_2, s_55_3 W.oo, s_55_4, s_55_5, s_55_6, m_56 W h0 (Nat.zero_le _), Gk_v, xcat_nil, Nat.zero_le, Nat.reduceAdd, true_and, ykl_n, ykl_i, Nat.sub_zero]
  rw [show (0 : Int32) = yI 0 from rfl, l_55 D.n 0 (ynext D s D.n 0) t W (Nat.zero_add _) (by omega), yrowF_eq]
  rfl
end

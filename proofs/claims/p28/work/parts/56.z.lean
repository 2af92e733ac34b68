/-! ===== the greatest level ===== -/
theorem ycN_ex {un c : Int32} (h : ∃ u, (1 ≤ u ∧ u ≤ 100) ∧ un = yI u) : ∃ m, m ≤ 100 ∧ ycur un c = yI m := by
  obtain ⟨u, hu, e⟩ := h
  obtain ⟨r, hr, er⟩ := yand255 (c >>> ((16 : Int32) &&& 31))
  obtain ⟨g, hg, eg⟩ := yand255 (c >>> ((8 : Int32) &&& 31))
  obtain ⟨b, hb, eb⟩ := yand255 c
  have h1 : (r + g + b) * u ≤ 765 * 100 := Nat.mul_le_mul (by omega) (by omega)
  refine ⟨(r + g + b) * u / 765, by omega, ?_⟩
  unfold ycur
  rw [er, eg, eb, e, yI_add, yI_add, yI_mul, show (765 : Int32) = yI 765 from rfl, yI_div (by omega) (by omega)]
def ycN (D : yD) (c : Int32) : Nat := (ycur D.un c).toNatClampNeg
theorem ycN_eq {D : yD} (h : yDok D) (c : Int32) : ycur D.un c = yI (ycN D c) ∧ ycN D c ≤ 100 := by
  obtain ⟨m, hm, e⟩ := ycN_ex (c := c) h.unu
  have : ycN D c = m := by
    unfold ycN
    rw [e, yI_clamp (by omega)]
  rw [this]
  exact ⟨e, hm⟩
/-- the load of pixels p .. at level l -/
def ylsum (D : yD) (l : Nat) : Nat → Nat → Nat → Nat
  | 0, _, a => a
  | m + 1, p, a => ylsum D l m (p + 1) (if ylit D p = true then a + ycN D (ydueC D.cn D.cg l (D.fm p)) else a)
theorem ylsum_ge {D : yD} {l : Nat} : ∀ m p a, a ≤ ylsum D l m p a := by
  intro m
  induction m with
  | zero => intro p a; exact Nat.le_refl _
  | succ m ih =>
    intro p a
    rw [ylsum]
    refine Nat.le_trans ?_ (ih (p + 1) _)
    split <;> omega
def ywith (D : yD) (l g : Nat) : Bool := decide (ylsum D l (ylast D g + 1 - D.fp g) (D.fp g) 0 ≤ (D.fl g).toNatClampNeg)
def yall (D : yD) (l : Nat) : Nat → Nat → Bool
  | 0, _ => true
  | m + 1, g => if ywith D l g = true then yall D l m (g + 1) else false
def ygl (D : yD) : Nat → Int32
  | 0 => -1
  | c + 1 => if yall D c D.f 0 = true then yI c else ygl D c
section
variable {d : Nat} {t : yT} {D : yD} {k : Nat} {E : Nat → yD} {s0 s1 : Option yD} {n : Nat} {B : Nat → Nat} {eo en : Int32}
end

/-! ===== what the steps find ===== -/
section
variable {c j a n t x0 : Nat} {x w : Int32} {v v0 v1 v2 v3 v4 v5 v6 v7 v8 : Value} {l fs : List Value} {f : Nat → Int32} {g : Nat → Option Nat} {y : vp_A} {yy : (Nat → Int32) ⊕ (Nat → Int64) ⊕ (Nat → UInt32) ⊕ (Nat → UInt64) ⊕ (Nat → Option Nat)} {F : Value → Prop} {FI : Int32 → Prop} {FE : xE → Prop} {FL : List Value → Prop}
theorem hgf_s : hgf c j (some (.inr (c, fs))) F ↔ hsel fs j F := by simp [hgf]
theorem hsel_0 : hsel (v0 :: l) 0 F ↔ F v0 := Iff.rfl
theorem hsel_1 : hsel (v0 :: v1 :: l) 1 F ↔ F v1 := Iff.rfl
theorem hsel_2 : hsel (v0 :: v1 :: v2 :: l) 2 F ↔ F v2 := Iff.rfl
theorem hsel_3 : hsel (v0 :: v1 :: v2 :: v3 :: l) 3 F ↔ F v3 := Iff.rfl
theorem hsel_4 : hsel (v0 :: v1 :: v2 :: v3 :: v4 :: l) 4 F ↔ F v4 := Iff.rfl
theorem hsel_5 : hsel (v0 :: v1 :: v2 :: v3 :: v4 :: v5 :: l) 5 F ↔ F v5 := Iff.rfl
theorem hsel_6 : hsel (v0 :: v1 :: v2 :: v3 :: v4 :: v5 :: v6 :: l) 6 F ↔ F v6 := Iff.rfl
theorem hsel_7 : hsel (v0 :: v1 :: v2 :: v3 :: v4 :: v5 :: v6 :: v7 :: l) 7 F ↔ F v7 := Iff.rfl
theorem hsel_8 : hsel (v0 :: v1 :: v2 :: v3 :: v4 :: v5 :: v6 :: v7 :: v8 :: l) 8 F ↔ F v8 := Iff.rfl
theorem hpf_s : hpf c j v (some (.inr (c, fs))) FL ↔ (j < fs.length ∧ (narrow (xtyf c j) v = v ∧ fits (xtyf c j) v = true)) ∧ FL (fs.set j v) := by simp [hpf]
theorem hcl_s : hcl c (some (.inr (c, fs))) ↔ True := by simp [hcl]
theorem hai_s : hai t x (some (.inl (t, (n, .inl f)))) FI ↔ yix x n ∧ FI (f x.toNatClampNeg) := by simp [hai]
theorem hai_21 : hai 2 x (some (.inl (1, (n, .inl f)))) FI ↔ False := by simp [hai]
theorem hpi_0 : hpi 0 x w (some (.inl (0, (n, .inl f)))) FE ↔ yix x n ∧ FE (.inl (0, (n, .inl (upd f x.toNatClampNeg w)))) := by simp [hpi]
theorem hpi_1 : hpi 1 x w (some (.inl (1, (n, .inl f)))) FE ↔ yix x n ∧ FE (.inl (1, (n, .inl (upd f x.toNatClampNeg (vp_nar .byte w))))) := by simp [hpi]
theorem hln_0 : hln a (some (.inl (0, (n, yy)))) FI ↔ FI (Int32.ofNat n) := by simp [hln]
theorem hln_1 : hln a (some (.inl (1, (n, yy)))) FI ↔ FI (Int32.ofNat n) := by simp [hln]
theorem hln_r (ha : a < 1000000) (ht : 4 ≤ t ∧ t ≤ 8) : hln a (some (.inl (t, (n, yy)))) FI ↔ FI (Int32.ofNat n) := by simp [hln, ha, ht]
/-- what a row of references holds at a place -/
def hop (o : Option Nat) (F : Value → Prop) : Prop := match o with
  | some b => b < 1000000 ∧ F (.ref b)
  | none => F .null
theorem hop_s : hop (some n) F ↔ n < 1000000 ∧ F (.ref n) := Iff.rfl
theorem hop_n : hop none F ↔ F .null := Iff.rfl
theorem haa_t (ha : a < 1000000) (ht : 4 ≤ t ∧ t ≤ 8) : haa a x (some (.inl (t, (n, .inr (.inr (.inr (.inr g))))))) F ↔ yix x n ∧ hop (g x.toNatClampNeg) F := by
  have h1 : ¬ 1000000 ≤ a := by omega
  unfold haa hop
  simp only [ha, ht, h1, and_self, true_or, and_true, true_and, or_false]
  cases g x.toNatClampNeg <;> simp
theorem hpa_o (ht : t = 4 ∨ t = 6 ∨ t = 7 ∨ t = 8) (hc : c = xofA t) : hpa x0 x (some (.inl (t, (n, .inr (.inr (.inr (.inr g))))))) (some (.inr (c, fs))) FE ↔ yix x n ∧ FE (.inl (t, (n, .inr (.inr (.inr (.inr (va_up g x.toNatClampNeg (some x0)))))))) := by
  unfold hpa
  simp only [ht, hc, and_self, true_and]
theorem hpa_i : hpa x0 x (some (.inl (5, (n, .inr (.inr (.inr (.inr g))))))) (some (.inl (0, y))) FE ↔ yix x n ∧ FE (.inl (5, (n, .inr (.inr (.inr (.inr (va_up g x.toNatClampNeg (some x0)))))))) := by
  unfold hpa
  simp only [true_and]
theorem xwr_1 {σ : xS} {a b : Nat} {e : xE} : (xwr σ a e).1 b = if b = a then some e else σ.1 b := rfl
theorem xwr_2 {σ : xS} {a : Nat} {e : xE} : (xwr σ a e).2 = σ.2 := rfl
theorem xnew_1 {σ : xS} {b m : Nat} {e : xE} : (xnew σ e m).1 b = if b = σ.2.1.1 then some e else σ.1 b := rfl
theorem xnew_n {σ : xS} {m : Nat} {e : xE} : (xnew σ e m).2.1.1 = σ.2.1.1 + 1 := rfl
theorem xnew_s {σ : xS} {m : Nat} {e : xE} : (xnew σ e m).2.1.2 = σ.2.1.2 + m := rfl
theorem xnew_z {σ : xS} {m : Nat} {e : xE} : (xnew σ e m).2.2 = σ.2.2 := rfl
theorem xRd_x {σ τ : xS} {a : Nat} (h : 1000000 ≤ a) (hz : τ.2.2 = σ.2.2) : xRd τ a = xRd σ a := by
  have h1 : ¬ a < 1000000 := by omega
  unfold xRd xExt
  simp only [h1, if_false, hz]
end

/-! ===== a long code is held against its word byte by byte ===== -/
def c7e : List UInt8 → List UInt8 → Bool
  | [], [] => true
  | a :: l, b :: m => Nat.beq a.toNat b.toNat && c7e l m
  | _, _ => false
theorem c7e_eq : ∀ l m, c7e l m = true → l = m := by
  intro l
  induction l with
  | nil =>
    intro m h
    cases m with
    | nil => rfl
    | cons b m => exact absurd h (by simp [c7e])
  | cons a l ih =>
    intro m h
    cases m with
    | nil => exact absurd h (by simp [c7e])
    | cons b m =>
      have h1 : (Nat.beq a.toNat b.toNat && c7e l m) = true := h
      rw [Bool.and_eq_true] at h1
      have e : a = b := UInt8.toNat_inj.mp (Nat.eq_of_beq_eq_true h1.1)
      rw [e, ih m h1.2]
def c7b (o : Option Cond) : ByteArray := match o with
  | some (.code _ b _ _) => b
  | _ => ByteArray.empty
def c7x (o : Option Cond) : Option (MethodName × Nat × Option FieldType) := match o with
  | some (.code x _ m r) => some (x, m, r)
  | _ => none
theorem c7_eq {o : Option Cond} {x : MethodName} {b : ByteArray} {m : Nat} {r : Option FieldType} (h1 : c7x o = some (x, m, r)) (h2 : c7b o = b) : o = some (.code x b m r) := by
  rcases o with _ | w
  · exact absurd h1 (by simp [c7x])
  · cases w <;> simp [c7x] at h1
    obtain ⟨rfl, rfl, rfl⟩ := h1
    subst h2
    rfl
theorem c7_b : c7b (lw_tbl[(xmpf 207).1]?) = xbyf 207 := ByteArray.ext (Array.toList_inj.mp (c7e_eq _ _ (by decide +kernel)))
theorem c7_w : lw_tbl[(xmpf 207).1]? = some (.code (xynf 207) (xbyf 207) (xmlf 207) (xrtf 207)) := c7_eq (by decide +kernel) c7_b
theorem c7_h : xwd (xmpf 207).1 (.code (xynf 207) (xbyf 207) (xmlf 207) (xrtf 207)) = true := by
  unfold xwd
  rw [decide_eq_true c7_w, Bool.true_and]
  rfl
theorem xme_207 : xme 207 = true := by
  unfold xme
  rw [if_pos (show xhn 207 = [] by decide +kernel), c7_h, Bool.and_true]
  decide +kernel
theorem xme_6d : ((List.range 1).all fun j => xme (207 + j)) = true := by
  rw [List.all_eq_true]
  intro j hj
  have h1 := List.mem_range.mp hj
  have e : j = 0 := by omega
  subst e
  exact xme_207

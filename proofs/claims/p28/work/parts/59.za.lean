/-! ===== the model's sums: items ===== -/
def yg (l : List Int32) (i : Nat) : Int32 := l.getD i 0
def ycode (v : Int32) : Int32 := if 0 ≤ v then 0 else if -2 ≤ v then 1 else -1 - v
def ycval (v : Int32) : Int32 := if 0 ≤ v then v else -1 - v
theorem ycp_cong {g h : Nat → Int32} : ∀ i, (∀ j, j < i → g j = h j) → ycp g i = ycp h i := by
  intro i
  induction i with
  | zero => intro _; rfl
  | succ i ih =>
    intro hh
    rw [ycp, ycp, ih (fun j hj => hh j (by omega)), hh i (by omega)]
theorem yg_lo {l : List Int32} {v : Int32} {i : Nat} (h : i < l.length) : yg (l ++ [v]) i = yg l i := by
  unfold yg
  rw [List.getD_eq_getElem?_getD, List.getD_eq_getElem?_getD, List.getElem?_append_left h]
theorem yg_at {l : List Int32} {v : Int32} : yg (l ++ [v]) l.length = v := by
  unfold yg
  rw [List.getD_eq_getElem?_getD, List.getElem?_append_right (Nat.le_refl _), Nat.sub_self]
  rfl
theorem ycp_lo {l : List Int32} {v : Int32} {i : Nat} (h : i ≤ l.length) : ycp (yg (l ++ [v])) i = ycp (yg l) i := ycp_cong i (fun j hj => yg_lo (by omega))
theorem ycp_2 (g : Nat → Int32) : ∀ i, ycp g i ≤ 2 * i := by
  intro i
  induction i with
  | zero => exact Nat.le_refl _
  | succ i ih =>
    rw [ycp]
    split <;> omega
theorem ycp_mono (g : Nat → Int32) : ∀ i, ycp g i < ycp g (i + 1) := by
  intro i
  rw [ycp]
  split <;> omega
theorem ycp_bk (g : Nat → Int32) : ∀ m i, ycp g i + (if -2 ≤ g i then 2 else 1) ≤ ycp g (i + 1 + m) := by
  intro m
  induction m with
  | zero =>
    intro i
    show _ ≤ ycp g (i + 1)
    rw [ycp]
    split <;> omega
  | succ m ih =>
    intro i
    have h1 := ih i
    have h2 := ycp_mono g (i + 1 + m)
    rw [show i + 1 + (m + 1) = i + 1 + m + 1 by omega]
    omega
/-- the items l stand as codes in the row S -/
abbrev yJs (S : Nat → Int32) (l : List Int32) : Prop := l.length ≤ 600 ∧ (S 7 = yI (ycp (yg l) l.length) ∧ ∀ i, i < l.length → S (340 + ycp (yg l) i) = ycode (yg l i) ∧ (-2 ≤ yg l i → S (340 + ycp (yg l) i + 1) = ycval (yg l i)))
section
variable {d : Nat}
end

/-! ===== the strips are made ===== -/
section
variable {d m s : Nat} {l : List (Nat × xE)} {g : Nat → Option xE} {z : Nat × (Nat → Int32)}
theorem yf40 {v : Int32} : (fun j => if j < 40 then v else (0 : Int32)) = fun j => if j < 40 then v else 0 := rfl
theorem yz40_0 : yz40 40 0 = .inl (0, (40, .inl (fun _ => 0))) := by
  unfold yz40
  simp only [ite_self]
end

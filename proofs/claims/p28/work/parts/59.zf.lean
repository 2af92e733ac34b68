/-! ===== the model's terms and sums ===== -/
abbrev yFn (D j : Nat) (n : Nat) (B : Nat → Nat) (K : Nat) (fac : Nat → List Int32 → yPs) : Prop := ∀ (t : yT) (m : Nat) (l : List Int32), yMr t n B m l K → l.length ≤ ysk n B m → yMz (fun u => Ra D j [.ref 160] (yemb t) (.inl none) (yemb u)) t n B K (fac (ysk n B m) l)
theorem ybt_no {n : Nat} {B : Nat → Nat} {q c : Nat} (Y : ∀ i, i < n → B i < 256) (hc : c < 256) (h : yat n B q c = false) : ¬ ybt n B q = yI c := fun h' => by
  have h2 := (ybt_is Y hc).mp h'
  rw [show yat n B q c = true from decide_eq_true h2] at h
  cases h
theorem ybt_ye {n : Nat} {B : Nat → Nat} {q c : Nat} (Y : ∀ i, i < n → B i < 256) (hc : c < 256) (h : yat n B q c = true) : ybt n B q = yI c := (ybt_is Y hc).mpr (of_decide_eq_true h)
section
variable {d : Nat} {n : Nat} {B : Nat → Nat} {fac : Nat → List Int32 → yPs} {K : Nat}
theorem yMr_1 {t : yT} {m m' k : Nat} {l : List Int32} (M : yMr t n B m l k) (h : m' ≤ n) : yMr (t.s1 160 4 (yI m')) n B m' l k ∧ yKj t (t.s1 160 4 (yI m')) :=
  yMr_4 M h ys1_same (fun j hj => by rw [ys1_upd, yupd_ne hj]) yFe_s1
end

/-! ===== Setup, History and LampStrip are made ===== -/
theorem yrefs8 : va_up (va_up (va_up (va_up (va_up (va_up (va_up (va_up (fun _ => none) 0 (some 40)) 1 (some 52)) 2 (some 64)) 3 (some 76)) 4 (some 88)) 5 (some 100)) 6 (some 112)) 7 (some 124) = fun j => if j < 8 then some (40 + 12 * j) else none := by
  funext j
  by_cases h : j < 8
  · rcases (by omega : j = 0 ∨ j = 1 ∨ j = 2 ∨ j = 3 ∨ j = 4 ∨ j = 5 ∨ j = 6 ∨ j = 7) with rfl | rfl | rfl | rfl | rfl | rfl | rfl | rfl <;> rfl
  · rw [if_neg h]
    unfold va_up
    rw [if_neg (by omega), if_neg (by omega), if_neg (by omega), if_neg (by omega), if_neg (by omega), if_neg (by omega), if_neg (by omega), if_neg (by omega)]
theorem yc0_7 : yc0 7 = some (.inr (4, [.ref 8, .ref 9, .ref 10, .ref 11, .ref 12, .ref 13, .ref 14, .ref 15, .ref 16, .int 1, .int 1, .int 255, .int 1, .int 0, .int 0, .long 0, .ref 18, .ref 17])) := rfl
theorem yc0_19 : yc0 19 = some (.inr (4, [.ref 20, .ref 21, .ref 22, .ref 23, .ref 24, .ref 25, .ref 26, .ref 27, .ref 28, .int 1, .int 1, .int 255, .int 1, .int 0, .int 0, .long 0, .ref 30, .ref 29])) := rfl
theorem yc0_40 : yc0 40 = some (.inr (4, [.ref 41, .ref 42, .ref 43, .ref 44, .ref 45, .ref 46, .ref 47, .ref 48, .ref 49, .int 1, .int 1, .int 255, .int 1, .int 0, .int 0, .long 0, .ref 51, .ref 50])) := rfl
theorem yc0_52 : yc0 52 = some (.inr (4, [.ref 53, .ref 54, .ref 55, .ref 56, .ref 57, .ref 58, .ref 59, .ref 60, .ref 61, .int 1, .int 1, .int 255, .int 1, .int 0, .int 0, .long 0, .ref 63, .ref 62])) := rfl
theorem yc0_64 : yc0 64 = some (.inr (4, [.ref 65, .ref 66, .ref 67, .ref 68, .ref 69, .ref 70, .ref 71, .ref 72, .ref 73, .int 1, .int 1, .int 255, .int 1, .int 0, .int 0, .long 0, .ref 75, .ref 74])) := rfl
theorem yc0_76 : yc0 76 = some (.inr (4, [.ref 77, .ref 78, .ref 79, .ref 80, .ref 81, .ref 82, .ref 83, .ref 84, .ref 85, .int 1, .int 1, .int 255, .int 1, .int 0, .int 0, .long 0, .ref 87, .ref 86])) := rfl
theorem yc0_88 : yc0 88 = some (.inr (4, [.ref 89, .ref 90, .ref 91, .ref 92, .ref 93, .ref 94, .ref 95, .ref 96, .ref 97, .int 1, .int 1, .int 255, .int 1, .int 0, .int 0, .long 0, .ref 99, .ref 98])) := rfl
theorem yc0_100 : yc0 100 = some (.inr (4, [.ref 101, .ref 102, .ref 103, .ref 104, .ref 105, .ref 106, .ref 107, .ref 108, .ref 109, .int 1, .int 1, .int 255, .int 1, .int 0, .int 0, .long 0, .ref 111, .ref 110])) := rfl
theorem yc0_112 : yc0 112 = some (.inr (4, [.ref 113, .ref 114, .ref 115, .ref 116, .ref 117, .ref 118, .ref 119, .ref 120, .ref 121, .int 1, .int 1, .int 255, .int 1, .int 0, .int 0, .long 0, .ref 123, .ref 122])) := rfl
theorem yc0_124 : yc0 124 = some (.inr (4, [.ref 125, .ref 126, .ref 127, .ref 128, .ref 129, .ref 130, .ref 131, .ref 132, .ref 133, .int 1, .int 1, .int 255, .int 1, .int 0, .int 0, .long 0, .ref 135, .ref 134])) := rfl
theorem yc0_136 : yc0 136 = some (.inr (4, [.ref 137, .ref 138, .ref 139, .ref 140, .ref 141, .ref 142, .ref 143, .ref 144, .ref 145, .int 1, .int 1, .int 255, .int 1, .int 0, .int 0, .long 0, .ref 147, .ref 146])) := rfl
theorem yc0_148 : yc0 148 = some (.inr (4, [.ref 149, .ref 150, .ref 151, .ref 152, .ref 153, .ref 154, .ref 155, .ref 156, .ref 157, .int 1, .int 1, .int 255, .int 1, .int 0, .int 0, .long 0, .ref 159, .ref 158])) := rfl
section
variable {d k i pc n : Nat} {c j a m s v : Nat} {u w : Int} {aux : List Int} {ls : xL} {r : List Value} {l : List (Nat × xE)} {g : Nat → Option xE} {z : Nat × (Nat → Int32)} {Q : xR → xS → Prop}
theorem yaas_ok {x : Int32} {f : Nat → Option Nat} {fs : List Value} {F : xE → Prop} : hpa v x (some (.inl (4, (n, .inr (.inr (.inr (.inr f))))))) (some (.inr (4, fs))) F ↔ yix x n ∧ F (.inl (4, (n, .inr (.inr (.inr (.inr (va_up f x.toNatClampNeg (some v)))))))) := hpa_o (Or.inl rfl) rfl
theorem gx_aast {x : Int32} (hf : ft k i = some (pc, .aastore, aux)) : G d k i ls (.ref v :: .int x :: .ref a :: r) (ymk l g m s z) Q ↔ (a < 1000000 ∧ v < 1000000) ∧ hpa v x (yov l g a) (yov l g v) (fun e => G d k (i + 1) ls r (ymk ((a, e) :: l) g m s z) Q) := hs_aast hf
theorem gx_anew {x : Int32} {N : Nat} (hf : ft k i = some (pc, .anewarray n, [4, w])) (hn : (¬ x < 0) ∧ (x.toNatClampNeg = N ∧ N ≤ 100000)) : G d k i ls (.int x :: r) (ymk l g m s z) Q ↔ m < 900000 ∧ G d k (i + 1) ls (.ref m :: r) (ymk ((m, .inl (4, (N, .inr (.inr (.inr (.inr (fun _ => none))))))) :: l) g (m + 1) (s + N) z) Q := by
  obtain ⟨h1, h2, h3⟩ := hn
  subst h2
  rw [G_eq hf]
  show Gs d k i ls (ymk l g m s z) Q (if 4 ≤ (4 : Int) ∧ (4 : Int) ≤ 8 ∧ ¬ x < 0 ∧ x.toNatClampNeg ≤ 100000 then xalloc i ls r (ymk l g m s z) (.inl ((4 : Int).toNat, (x.toNatClampNeg, .inr (.inr (.inr (.inr (fun _ => none))))))) x.toNatClampNeg else none) ↔ _
  rw [if_pos ⟨by decide, by decide, h1, h3⟩]
  unfold xalloc
  by_cases h : m < 900000
  · rw [if_pos (show (ymk l g m s z).2.1.1 < 900000 from h)]
    exact ⟨fun h' => ⟨h, h'⟩, fun h' => h'.2⟩
  · rw [if_neg (show ¬ (ymk l g m s z).2.1.1 < 900000 from h)]
    exact ⟨fun h' => h'.elim, fun h' => absurd h'.1 h⟩
end
theorem yn8' : (¬ (8 : Int32) < 0) ∧ ((8 : Int32).toNatClampNeg = 8 ∧ 8 ≤ 100000) := ⟨by decide, rfl, by decide⟩
theorem yh0 : ¬ (8 : Int32) ≤ 0 := by decide
theorem yhi0 : yix 0 8 := by unfold yix; decide
theorem yha0 : (0 : Int32) + 1 = 1 := rfl
theorem yh1 : ¬ (8 : Int32) ≤ 1 := by decide
theorem yhi1 : yix 1 8 := by unfold yix; decide
theorem yha1 : (1 : Int32) + 1 = 2 := rfl
theorem yhc1 : (1 : Int32).toNatClampNeg = 1 := rfl
theorem yh2 : ¬ (8 : Int32) ≤ 2 := by decide
theorem yhi2 : yix 2 8 := by unfold yix; decide
theorem yha2 : (2 : Int32) + 1 = 3 := rfl
theorem yhc2 : (2 : Int32).toNatClampNeg = 2 := rfl
theorem yh3 : ¬ (8 : Int32) ≤ 3 := by decide
theorem yhi3 : yix 3 8 := by unfold yix; decide
theorem yha3 : (3 : Int32) + 1 = 4 := rfl
theorem yhc3 : (3 : Int32).toNatClampNeg = 3 := rfl
theorem yh4 : ¬ (8 : Int32) ≤ 4 := by decide
theorem yhi4 : yix 4 8 := by unfold yix; decide
theorem yha4 : (4 : Int32) + 1 = 5 := rfl
theorem yhc4 : (4 : Int32).toNatClampNeg = 4 := rfl
theorem yh5 : ¬ (8 : Int32) ≤ 5 := by decide
theorem yhi5 : yix 5 8 := by unfold yix; decide
theorem yha5 : (5 : Int32) + 1 = 6 := rfl
theorem yhc5 : (5 : Int32).toNatClampNeg = 5 := rfl
theorem yh6 : ¬ (8 : Int32) ≤ 6 := by decide
theorem yhi6 : yix 6 8 := by unfold yix; decide
theorem yha6 : (6 : Int32) + 1 = 7 := rfl
theorem yhc6 : (6 : Int32).toNatClampNeg = 6 := rfl
theorem yh7 : ¬ (8 : Int32) ≤ 7 := by decide
theorem yhi7 : yix 7 8 := by unfold yix; decide
theorem yha7 : (7 : Int32) + 1 = 8 := rfl
theorem yhc7 : (7 : Int32).toNatClampNeg = 7 := rfl
theorem yh8 : (8 : Int32) ≤ 8 := by decide
section
variable {d m s : Nat} {l : List (Nat × xE)} {g : Nat → Option xE} {z : Nat × (Nat → Int32)}
end

/-! ===== Setup, History and LampStrip are made ===== -/
theorem yrefs8 : va_up (va_up (va_up (va_up (va_up (va_up (va_up (va_up (fun _ => none) 0 (some 40)) 1 (some 52)) 2 (some 64)) 3 (some 76)) 4 (some 88)) 5 (some 100)) 6 (some 112)) 7 (some 124) = fun j => if j < 8 then some (40 + 12 * j) else none := by
  funext j
  by_cases h : j < 8
  · rcases (by omega : j = 0 ∨ j = 1 ∨ j = 2 ∨ j = 3 ∨ j = 4 ∨ j = 5 ∨ j = 6 ∨ j = 7) with rfl | rfl | rfl | rfl | rfl | rfl | rfl | rfl <;> rfl
  · rw [if_neg h]
    unfold va_up
    rw [if_neg (by omega), if_neg (by omega), if_neg (by omega), if_neg (by omega), if_neg (by omega), if_neg (by omega), if_neg (by omega), if_neg (by omega)]
theorem yc0_7 : yc0 7 = some (.inr (4, [.ref 8, .ref 9, .ref 10, .ref 11, .ref 12, .ref 13, .ref 14, .ref 15, .ref 16, .int 1, .int 1, .int 255, .int 1, .int 0, .int 0, .long 0, .ref 18, .ref 17])) := rfl
theorem yc0_19 : yc0 19 = some (.inr (4, [.ref 20, .ref 21, .ref 22, .ref 23, .ref 24, .ref 25, .ref 26, .ref 27, .ref 28, .int 1, .int 1, .int 255, .int 1, .int 0, .int 0, .long 0, .ref 30, .ref 29])) := rfl
theorem yc0_40 : yc0 40 = some (.inr (4, [.ref 41, .ref 42, .ref 43, .ref 44, .ref 45, .ref 46, .ref 47, .ref 48, .ref 49, .int 1, .int 1, .int 255, .int 1, .int 0, .int 0, .long 0, .ref 51, .ref 50])) := rfl
theorem yc0_52 : yc0 52 = some (.inr (4, [.ref 53, .ref 54, .ref 55, .ref 56, .ref 57, .ref 58, .ref 59, .ref 60, .ref 61, .int 1, .int 1, .int 255, .int 1, .int 0, .int 0, .long 0, .ref 63, .ref 62])) := rfl
theorem yc0_64 : yc0 64 = some (.inr (4, [.ref 65, .ref 66, .ref 67, .ref 68, .ref 69, .ref 70, .ref 71, .ref 72, .ref 73, .int 1, .int 1, .int 255, .int 1, .int 0, .int 0, .long 0, .ref 75, .ref 74])) := rfl
theorem yc0_76 : yc0 76 = some (.inr (4, [.ref 77, .ref 78, .ref 79, .ref 80, .ref 81, .ref 82, .ref 83, .ref 84, .ref 85, .int 1, .int 1, .int 255, .int 1, .int 0, .int 0, .long 0, .ref 87, .ref 86])) := rfl
theorem yc0_88 : yc0 88 = some (.inr (4, [.ref 89, .ref 90, .ref 91, .ref 92, .ref 93, .ref 94, .ref 95, .ref 96, .ref 97, .int 1, .int 1, .int 255, .int 1, .int 0, .int 0, .long 0, .ref 99, .ref 98])) := rfl
theorem yc0_100 : yc0 100 = some (.inr (4, [.ref 101, .ref 102, .ref 103, .ref 104, .ref 105, .ref 106, .ref 107, .ref 108, .ref 109, .int 1, .int 1, .int 255, .int 1, .int 0, .int 0, .long 0, .ref 111, .ref 110])) := rfl
theorem yc0_112 : yc0 112 = some (.inr (4, [.ref 113, .ref 114, .ref 115, .ref 116, .ref 117, .ref 118, .ref 119, .ref 120, .ref 121, .int 1, .int 1, .int 255, .int 1, .int 0, .int 0, .long 0, .ref 123, .ref 122])) := rfl
theorem yc0_124 : yc0 124 = some (.inr (4, [.ref 125, .ref 126, .ref 127, .ref 128, .ref 129, .ref 130, .ref 131, .ref 132, .ref 133, .int 1, .int 1, .int 255, .int 1, .int 0, .int 0, .long 0, .ref 135, .ref 134])) := rfl
theorem yc0_136 : yc0 136 = some (.inr (4, [.ref 137, .ref 138, .ref 139, .ref 140, .ref 141, .ref 142, .ref 143, .ref 144, .ref 145, .int 1, .int 1, .int 255, .int 1, .int 0, .int 0, .long 0, .ref 147, .ref 146])) := rfl
theorem yc0_148 : yc0 148 = some (.inr (4, [.ref 149, .ref 150, .ref 151, .ref 152, .ref 153, .ref 154, .ref 155, .ref 156, .ref 157, .int 1, .int 1, .int 255, .int 1, .int 0, .int 0, .long 0, .ref 159, .ref 158])) := rfl
def yaasC (e e' : Option xE) (K : Nat → (Nat → Option Nat) → Prop) : Prop := match e, e' with
  | some (.inl (t, (n, .inr (.inr (.inr (.inr f)))))), some (.inr (c, _)) => if t = 4 ∧ c = 4 then K n f else False
  | _, _ => False
section
variable {d k i pc n : Nat} {c j a m s v : Nat} {u w : Int} {aux : List Int} {ls : xL} {r : List Value} {l : List (Nat × xE)} {g : Nat → Option xE} {z : Nat × (Nat → Int32)} {Q : xR → xS → Prop}
theorem yaas_ok {f : Nat → Option Nat} {fs : List Value} {K : Nat → (Nat → Option Nat) → Prop} : yaasC (some (.inl (4, (n, .inr (.inr (.inr (.inr f))))))) (some (.inr (4, fs))) K ↔ K n f := by
  unfold yaasC
  simp only [and_self, if_true]
theorem gx_aast {x : Int32} (hf : ft k i = some (pc, .aastore, aux)) : G d k i ls (.ref v :: .int x :: .ref a :: r) (ymk l g m s z) Q ↔ (a < 1000000 ∧ v < 1000000) ∧ yaasC (yov l g a) (yov l g v) (fun n f => yix x n ∧ G d k (i + 1) ls r (ymk ((a, .inl (4, (n, .inr (.inr (.inr (.inr (va_up f x.toNatClampNeg (some v)))))))) :: l) g m s z) Q) := by
  rw [G_eq hf]
  show Gs d k i ls (ymk l g m s z) Q (xastA i ls (.ref v :: .int x :: .ref a :: r) (ymk l g m s z)) ↔ _
  unfold xastA yaasC yix
  by_cases ha : a < 1000000 ∧ v < 1000000
  · simp only [ha, and_self, if_true, true_and]
    show Gs d k i ls (ymk l g m s z) Q (match yov l g a, yov l g v with
      | some (.inl (t', (n, .inr (.inr (.inr (.inr f)))))), some (.inr (c, _)) => if t' = 4 ∧ c = 4 ∧ ¬ (x < 0 ∨ n ≤ x.toNatClampNeg) then xgo (i + 1) ls r (xwr (ymk l g m s z) a (.inl (4, (n, .inr (.inr (.inr (.inr (va_up f x.toNatClampNeg (some v))))))))) else none
      | _, _ => none) ↔ _
    split
    · rename_i t' n f c fs he he'
      by_cases h : t' = 4 ∧ c = 4
      · rw [if_pos h]
        by_cases h' : ¬ (x < 0 ∨ n ≤ x.toNatClampNeg)
        · rw [if_pos ⟨h.1, h.2, h'⟩]
          exact ⟨fun q => ⟨h', q⟩, fun q => q.2⟩
        · rw [if_neg (fun q => h' q.2.2)]
          exact ⟨fun q => q.elim, fun q => absurd q.1 h'⟩
      · rw [if_neg h, if_neg (fun q => h ⟨q.1, q.2.1⟩)]
        exact Iff.rfl
    · exact Iff.rfl
  · simp only [ha, if_false, false_and]
    exact Iff.rfl
theorem gx_anew {x : Int32} {N : Nat} (hf : ft k i = some (pc, .anewarray n, aux)) (hn : (¬ x < 0) ∧ (x.toNatClampNeg = N ∧ N ≤ 100000)) : G d k i ls (.int x :: r) (ymk l g m s z) Q ↔ m < 900000 ∧ G d k (i + 1) ls (.ref m :: r) (ymk ((m, .inl (4, (N, .inr (.inr (.inr (.inr (fun _ => none))))))) :: l) g (m + 1) (s + N) z) Q := by
  obtain ⟨h1, h2, h3⟩ := hn
  subst h2
  rw [G_eq hf]
  show Gs d k i ls (ymk l g m s z) Q (if ¬ x < 0 ∧ x.toNatClampNeg ≤ 100000 then xalloc i ls r (ymk l g m s z) (.inl (4, (x.toNatClampNeg, .inr (.inr (.inr (.inr (fun _ => none))))))) x.toNatClampNeg else none) ↔ _
  rw [if_pos ⟨h1, h3⟩]
  unfold xalloc
  by_cases h : m < 900000
  · rw [if_pos (show (ymk l g m s z).2.1.1 < 900000 from h)]
    exact ⟨fun h' => ⟨h, h'⟩, fun h' => h'.2⟩
  · rw [if_neg (show ¬ (ymk l g m s z).2.1.1 < 900000 from h)]
    exact ⟨fun h' => h'.elim, fun h' => absurd h'.1 h⟩
end
theorem yn8' : (¬ (8 : Int32) < 0) ∧ ((8 : Int32).toNatClampNeg = 8 ∧ 8 ≤ 100000) := ⟨by decide, rfl, by decide⟩
theorem yh0 : ¬ (8 : Int32) ≤ 0 := by decide
theorem yhi0 : yix 0 8 := by unfold yix; decide
theorem yha0 : (0 : Int32) + 1 = 1 := rfl
theorem yh1 : ¬ (8 : Int32) ≤ 1 := by decide
theorem yhi1 : yix 1 8 := by unfold yix; decide
theorem yha1 : (1 : Int32) + 1 = 2 := rfl
theorem yhc1 : (1 : Int32).toNatClampNeg = 1 := rfl
theorem yh2 : ¬ (8 : Int32) ≤ 2 := by decide
theorem yhi2 : yix 2 8 := by unfold yix; decide
theorem yha2 : (2 : Int32) + 1 = 3 := rfl
theorem yhc2 : (2 : Int32).toNatClampNeg = 2 := rfl
theorem yh3 : ¬ (8 : Int32) ≤ 3 := by decide
theorem yhi3 : yix 3 8 := by unfold yix; decide
theorem yha3 : (3 : Int32) + 1 = 4 := rfl
theorem yhc3 : (3 : Int32).toNatClampNeg = 3 := rfl
theorem yh4 : ¬ (8 : Int32) ≤ 4 := by decide
theorem yhi4 : yix 4 8 := by unfold yix; decide
theorem yha4 : (4 : Int32) + 1 = 5 := rfl
theorem yhc4 : (4 : Int32).toNatClampNeg = 4 := rfl
theorem yh5 : ¬ (8 : Int32) ≤ 5 := by decide
theorem yhi5 : yix 5 8 := by unfold yix; decide
theorem yha5 : (5 : Int32) + 1 = 6 := rfl
theorem yhc5 : (5 : Int32).toNatClampNeg = 5 := rfl
theorem yh6 : ¬ (8 : Int32) ≤ 6 := by decide
theorem yhi6 : yix 6 8 := by unfold yix; decide
theorem yha6 : (6 : Int32) + 1 = 7 := rfl
theorem yhc6 : (6 : Int32).toNatClampNeg = 6 := rfl
theorem yh7 : ¬ (8 : Int32) ≤ 7 := by decide
theorem yhi7 : yix 7 8 := by unfold yix; decide
theorem yha7 : (7 : Int32) + 1 = 8 := rfl
theorem yhc7 : (7 : Int32).toNatClampNeg = 7 := rfl
theorem yh8 : (8 : Int32) ≤ 8 := by decide
section
variable {d m s : Nat} {l : List (Nat × xE)} {g : Nat → Option xE} {z : Nat × (Nat → Int32)}
theorem m_20x : Ra (d + 2) 20 [.ref 31, .ref 1, .ref 19] (ymk ((31, .inr (3, xdef 3)) :: l) g 32 s z) (.inl none) (ymk [] (yfil 31 34 (yov l g)) 34 (s + 603) z) := by
  intro Q
  show G (d + 2) 20 0 [some (.ref 31), some (.ref 1), some (.ref 19)] [] _ Q ↔ _
  simp only [s_20_0, gx_obj f_20_1, s_20_2, s_20_3, gx_putL (c := 3) (j := 3) f_20_4 rfl rfl, s_20_5, s_20_6, gx_putL (c := 3) (j := 4) f_20_7 rfl rfl, s_20_8, s_20_9, gx_putI (c := 3) (j := 5) (x := 0) f_20_10 rfl rfl, s_20_11, s_20_12, gx_putI (c := 3) (j := 6) (x := 0) f_20_13 rfl rfl, s_20_14, s_20_15, gx_putR (c := 3) (j := 0) f_20_16 rfl rfl, s_20_17, s_20_18, gx_putR (c := 3) (j := 1) f_20_19 rfl rfl, s_20_20, gx_new (c := 5) f_20_21, s_20_22, s_20_22i, s_20_23, gx_call2 (k' := 65) (kind := 2) (c := 5) f_20_24 (by decide) (by decide) rfl, gx_putR (c := 3) (j := 2) f_20_25 rfl rfl, s_20_26, m_65x, yfil_s, false_and, and_false, yov_s, yov_n, yget_s, yopt_ok, yput_ok, yarr_ok, ycls_ok, List.length_cons, List.length_nil, List.set_cons_zero, List.set_cons_succ, List.getElem?_cons_zero, List.getElem?_cons_succ, xdef_3, xnf_0, xnf_1, xnf_2, xnf_3, xnf_4, xnf_5, xnf_6, xnf_7, xnf_8, Nat.reduceAdd, Nat.reduceLT, Nat.reduceEqDiff, reduceIte, if_true, if_false, true_and, and_true, ycl0, yi06, yup00, ite_self, Nat.add_assoc, ygi_t, Gk_v, Gk_n, xcat_nil, xcat_i, xcat_r, xcat_l, xcat_d, Nat.zero_le, Nat.reduceAdd, Nat.reduceLeDiff, true_and, and_true, ykl_i, ykl_r, ykl_n, ykl_l]
  refine Eq.to_iff (congrArg (Q (.inl none)) ?_)
  refine ymk_fil2 (p := 31) (q := 34) (h := yov l g) (fun b h1 h2 => ?_) (fun b hb => ?_)
  · rcases (by omega : b = 31 ∨ b = 32 ∨ b = 33) with rfl | rfl | rfl
    all_goals rfl
  · simp only [yov_s, yov_n, yfil_s]
    repeat' split
    all_goals first | rfl | (exfalso; omega)
theorem m_5x : Ra (d + 4) 5 [.ref 38] (ymk ((38, .inr (1, xdef 1)) :: l) g 39 s z) (.inl none) (ymk [] (yfil 38 136 (yov l g)) 136 (s + 2808) z) := by
  intro Q
  show G (d + 4) 5 0 [some (.ref 38), none] [] _ Q ↔ _
  simp only [s_5_0, gx_obj f_5_1, s_5_2, s_5_3, gx_putR (c := 1) (j := 0) f_5_5 rfl rfl, s_5_6, s_5_7, gx_putI (c := 1) (j := 1) f_5_8 rfl rfl, s_5_9, s_5_10, gx_putI (c := 1) (j := 2) f_5_11 rfl rfl, s_5_12, s_5_13, s_5_14, s_5_15, s_5_16, s_5_17, gx_getn (c := 1) (j := 0) f_5_18, s_5_19, gx_new (c := 4) f_5_20, s_5_21, s_5_21i, gx_call1 (k' := 29) (kind := 2) (c := 4) f_5_22 (by decide) (by decide) rfl, s_5_24, s_5_25, s_5_26, gx_anew (x := 8) (N := 8) f_5_4 yn8', gx_aast f_5_23, yaas_ok, m_29x_40, m_29x_52, m_29x_64, m_29x_76, m_29x_88, m_29x_100, m_29x_112, m_29x_124, yc0_40, yc0_52, yc0_64, yc0_76, yc0_88, yc0_100, yc0_112, yc0_124, yfil_s, false_and, and_false, yh0, yh1, yh2, yh3, yh4, yh5, yh6, yh7, yh8, yhi0, yhi1, yhi2, yhi3, yhi4, yhi5, yhi6, yhi7, yha0, yha1, yha2, yha3, yha4, yha5, yha6, yha7, yhc1, yhc2, yhc3, yhc4, yhc5, yhc6, yhc7, yov_s, yov_n, yget_s, yopt_ok, yput_ok, yarr_ok, ycls_ok, List.length_cons, List.length_nil, List.set_cons_zero, List.set_cons_succ, List.getElem?_cons_zero, List.getElem?_cons_succ, xdef_1, xnf_0, xnf_1, xnf_2, xnf_3, xnf_4, xnf_5, xnf_6, xnf_7, xnf_8, Nat.reduceAdd, Nat.reduceLT, Nat.reduceEqDiff, reduceIte, if_true, if_false, true_and, and_true, ycl0, yi06, yup00, ite_self, Nat.add_assoc, ygi_t, Gk_v, Gk_n, xcat_nil, xcat_i, xcat_r, xcat_l, xcat_d, Nat.zero_le, Nat.reduceAdd, Nat.reduceLeDiff, true_and, and_true, ykl_i, ykl_r, ykl_n, ykl_l]
  refine Eq.to_iff (congrArg (Q (.inl none)) ?_)
  refine ymk_fil2 (p := 38) (q := 136) (h := yov l g) (fun b h1 h2 => ?_) (fun b hb => ?_)
  · by_cases h3 : b = 38
    · subst h3
      rfl
    · by_cases h4 : b = 39
      · subst h4
        exact congrArg (fun f => some (Sum.inl (4, (8, Sum.inr (Sum.inr (Sum.inr (Sum.inr f))))))) yrefs8
      · simp only [yov_s, yov_n, yfil_s, h3, h4, if_false]
        repeat' split
        all_goals first | rfl | (exfalso; omega)
  · have n38 : ¬ b = 38 := by omega
    have n39 : ¬ b = 39 := by omega
    have n40 : ¬ (40 ≤ b ∧ b < 52) := by omega
    have n52 : ¬ (52 ≤ b ∧ b < 64) := by omega
    have n64 : ¬ (64 ≤ b ∧ b < 76) := by omega
    have n76 : ¬ (76 ≤ b ∧ b < 88) := by omega
    have n88 : ¬ (88 ≤ b ∧ b < 100) := by omega
    have n100 : ¬ (100 ≤ b ∧ b < 112) := by omega
    have n112 : ¬ (112 ≤ b ∧ b < 124) := by omega
    have n124 : ¬ (124 ≤ b ∧ b < 136) := by omega
    simp only [yov_s, yov_n, yfil_s, n38, n39, n40, n52, n64, n76, n88, n100, n112, n124, if_false]
theorem m_93x : Ra (d + 5) 93 [.ref 0] (ymk [(0, .inr (7, xdef 7))] (fun _ => none) 1 s z) (.inl none) (ymk [] (yfil 0 160 (fun _ => none)) 160 (s + 6136) z) := by
  intro Q
  show G (d + 5) 93 0 [some (.ref 0)] [] _ Q ↔ _
  simp only [s_93_0, gx_obj f_93_1, s_93_2, gx_new (c := 6) f_93_3, s_93_4, s_93_4i, gx_call1 (k' := 73) (kind := 5) (c := 6) f_93_5 (by decide) (by decide) rfl, gx_putR (c := 7) (j := 0) f_93_6 rfl rfl, s_93_7, gx_new (c := 0) f_93_8, s_93_9, s_93_9i, gx_call1 (k' := 0) (kind := 5) (c := 0) f_93_10 (by decide) (by decide) rfl, gx_putR (c := 7) (j := 1) f_93_11 rfl rfl, s_93_12, gx_new (c := 4) f_93_13, s_93_14, s_93_14i, gx_call1 (k' := 29) (kind := 2) (c := 4) f_93_15 (by decide) (by decide) rfl, gx_putR (c := 7) (j := 2) f_93_16 rfl rfl, s_93_17, gx_new (c := 4) f_93_18, s_93_19, s_93_19i, gx_call1 (k' := 29) (kind := 2) (c := 4) f_93_20 (by decide) (by decide) rfl, gx_putR (c := 7) (j := 3) f_93_21 rfl rfl, s_93_22, gx_new (c := 3) f_93_23, s_93_24, s_93_24i, s_93_25, gx_getn (c := 7) (j := 0) f_93_26, s_93_27, gx_getn (c := 7) (j := 3) f_93_28, gx_call3 (k' := 20) (kind := 2) (c := 3) f_93_29 (by decide) (by decide) rfl, gx_putR (c := 7) (j := 4) f_93_30 rfl rfl, s_93_31, gx_new (c := 2) f_93_32, s_93_33, s_93_33i, s_93_34, gx_getn (c := 7) (j := 0) f_93_35, s_93_36, gx_getn (c := 7) (j := 2) f_93_37, s_93_38, gx_getn (c := 7) (j := 1) f_93_39, gx_call4 (k' := 8) (kind := 2) (c := 2) f_93_40 (by decide) (by decide) rfl, gx_putR (c := 7) (j := 5) f_93_41 rfl rfl, s_93_42, gx_new (c := 1) f_93_43, s_93_44, s_93_44i, gx_call1 (k' := 5) (kind := 2) (c := 1) f_93_45 (by decide) (by decide) rfl, gx_putR (c := 7) (j := 6) f_93_46 rfl rfl, s_93_47, gx_new (c := 4) f_93_48, s_93_49, s_93_49i, gx_call1 (k' := 29) (kind := 2) (c := 4) f_93_50 (by decide) (by decide) rfl, gx_putR (c := 7) (j := 7) f_93_51 rfl rfl, s_93_52, gx_new (c := 4) f_93_53, s_93_54, s_93_54i, gx_call1 (k' := 29) (kind := 2) (c := 4) f_93_55 (by decide) (by decide) rfl, gx_putR (c := 7) (j := 8) f_93_56 rfl rfl, s_93_57, s_93_58, gx_putI (c := 7) (j := 9) (x := 0) f_93_59 rfl rfl, s_93_60, s_93_61, gx_putI (c := 7) (j := 10) (x := 0) f_93_62 rfl rfl, s_93_63, s_93_64, gx_putI (c := 7) (j := 11) f_93_65 rfl rfl, s_93_66, s_93_67, gx_putI (c := 7) (j := 12) f_93_68 rfl rfl, s_93_69, m_73x, m_0x, m_29x_7, m_29x_19, m_20x, m_8x, m_5x, m_29x_136, m_29x_148, yfil_s, false_and, and_false, yov_s, yov_n, yget_s, yopt_ok, yput_ok, yarr_ok, ycls_ok, List.length_cons, List.length_nil, List.set_cons_zero, List.set_cons_succ, List.getElem?_cons_zero, List.getElem?_cons_succ, xdef_7, xnf_0, xnf_1, xnf_2, xnf_3, xnf_4, xnf_5, xnf_6, xnf_7, xnf_8, Nat.reduceAdd, Nat.reduceLT, Nat.reduceEqDiff, reduceIte, if_true, if_false, true_and, and_true, ycl0, yi06, yup00, ite_self, Nat.add_assoc, ygi_t, Gk_v, Gk_n, xcat_nil, xcat_i, xcat_r, xcat_l, xcat_d, Nat.zero_le, Nat.reduceAdd, Nat.reduceLeDiff, true_and, and_true, ykl_i, ykl_r, ykl_n, ykl_l]
  refine Eq.to_iff (congrArg (Q (.inl none)) ?_)
  refine ymk_fil2 (p := 0) (q := 160) (h := fun _ => none) (fun b h1 h2 => ?_) (fun b hb => ?_)
  · by_cases h3 : b = 0
    · subst h3
      rfl
    · simp only [yov_s, yov_n, yfil_s, h3, if_false]
      repeat' split
      all_goals first | rfl | (exfalso; omega)
  · simp only [yov_s, yov_n, yfil_s]
    repeat' split
    all_goals first | rfl | (exfalso; omega)
end

set_option maxRecDepth 8000
theorem f_244_0 : ft 244 0 = some (0, .new 8, [0, 7, 109]) := rfl
theorem f_244_1 : ft 244 1 = some (3, .dup, []) := rfl
theorem s_244_1 {d : Nat} {σ : xS} {st : List Value} {Q : xR → xS → Prop} {l0 l1 l2 l3 l4 l5 l6 l7 l8 : Option Value} {x : Nat} : G d 244 1 [l0, l1, l2, l3, l4, l5, l6, l7, l8] (.ref x :: st) σ Q ↔ G d 244 2 [l0, l1, l2, l3, l4, l5, l6, l7, l8] (.ref x :: .ref x :: st) σ Q := gs_go f_244_1 rfl
theorem s_244_1i {d : Nat} {σ : xS} {st : List Value} {Q : xR → xS → Prop} {l0 l1 l2 l3 l4 l5 l6 l7 l8 : Option Value} {x : Int32} : G d 244 1 [l0, l1, l2, l3, l4, l5, l6, l7, l8] (.int x :: st) σ Q ↔ G d 244 2 [l0, l1, l2, l3, l4, l5, l6, l7, l8] (.int x :: .int x :: st) σ Q := gs_go f_244_1 rfl
theorem f_244_2 : ft 244 2 = some (4, .invokespecial 77, [93, 1, 2, 111]) := rfl
theorem s_244_2 {d : Nat} {t : yT} {st : List Value} {Q : xR → xS → Prop} {l0 l1 l2 l3 l4 l5 l6 l7 l8 : Option Value} {a0 : Nat} (ho : yisO 7 a0) : G (d + 1) 244 2 [l0, l1, l2, l3, l4, l5, l6, l7, l8] (.ref a0 :: st) (yemb t) Q ↔ xcat st ≤ 8 ∧ Cl d 93 [.ref a0] (yemb t) (Gk (d + 1) 244 2 [l0, l1, l2, l3, l4, l5, l6, l7, l8] st Q) := gs_call f_244_2 ((xinv_call (i := 2) (n := 111) (ls := [l0, l1, l2, l3, l4, l5, l6, l7, l8]) (kind := 2) (σ := yemb t) (by decide)).trans (xcall_vi [.ref a0] rfl rfl (show (1 : Nat) ≤ 1 by decide) rfl ho))
theorem f_244_3 : ft 244 3 = some (7, .astore_n 1, []) := rfl
theorem s_244_3 {d : Nat} {σ : xS} {st : List Value} {Q : xR → xS → Prop} {l0 l1 l2 l3 l4 l5 l6 l7 l8 : Option Value} {x : Nat} (h : x < 1000000) : G d 244 3 [l0, l1, l2, l3, l4, l5, l6, l7, l8] (.ref x :: st) σ Q ↔ G d 244 4 [ykl l0, some (.ref x), l2, l3, l4, l5, l6, l7, l8] st σ Q := by
  cases l0 with
  | none => exact gs_go f_244_3 (if_pos ⟨(show (1 : Nat) < 9 by decide), h⟩)
  | some v => cases v <;> exact gs_go f_244_3 (if_pos ⟨(show (1 : Nat) < 9 by decide), h⟩)
theorem f_244_4 : ft 244 4 = some (8, .new 78, [0, 8, 1176]) := rfl
theorem f_244_5 : ft 244 5 = some (11, .dup, []) := rfl
theorem s_244_5 {d : Nat} {σ : xS} {st : List Value} {Q : xR → xS → Prop} {l0 l1 l2 l3 l4 l5 l6 l7 l8 : Option Value} {x : Nat} : G d 244 5 [l0, l1, l2, l3, l4, l5, l6, l7, l8] (.ref x :: st) σ Q ↔ G d 244 6 [l0, l1, l2, l3, l4, l5, l6, l7, l8] (.ref x :: .ref x :: st) σ Q := gs_go f_244_5 rfl
theorem s_244_5i {d : Nat} {σ : xS} {st : List Value} {Q : xR → xS → Prop} {l0 l1 l2 l3 l4 l5 l6 l7 l8 : Option Value} {x : Int32} : G d 244 5 [l0, l1, l2, l3, l4, l5, l6, l7, l8] (.int x :: st) σ Q ↔ G d 244 6 [l0, l1, l2, l3, l4, l5, l6, l7, l8] (.int x :: .int x :: st) σ Q := gs_go f_244_5 rfl
theorem f_244_6 : ft 244 6 = some (12, .invokespecial 80, [122, 1, 2, 1178]) := rfl
theorem s_244_6 {d : Nat} {t : yT} {st : List Value} {Q : xR → xS → Prop} {l0 l1 l2 l3 l4 l5 l6 l7 l8 : Option Value} {a0 : Nat} (ho : yisO 8 a0) : G (d + 1) 244 6 [l0, l1, l2, l3, l4, l5, l6, l7, l8] (.ref a0 :: st) (yemb t) Q ↔ xcat st ≤ 8 ∧ Cl d 122 [.ref a0] (yemb t) (Gk (d + 1) 244 6 [l0, l1, l2, l3, l4, l5, l6, l7, l8] st Q) := gs_call f_244_6 ((xinv_call (i := 6) (n := 1178) (ls := [l0, l1, l2, l3, l4, l5, l6, l7, l8]) (kind := 2) (σ := yemb t) (by decide)).trans (xcall_vi [.ref a0] rfl rfl (show (1 : Nat) ≤ 1 by decide) rfl ho))
theorem f_244_7 : ft 244 7 = some (15, .astore_n 2, []) := rfl
theorem s_244_7 {d : Nat} {σ : xS} {st : List Value} {Q : xR → xS → Prop} {l0 l1 l2 l3 l4 l5 l6 l7 l8 : Option Value} {x : Nat} (h : x < 1000000) : G d 244 7 [l0, l1, l2, l3, l4, l5, l6, l7, l8] (.ref x :: st) σ Q ↔ G d 244 8 [l0, ykl l1, some (.ref x), l3, l4, l5, l6, l7, l8] st σ Q := by
  cases l1 with
  | none => exact gs_go f_244_7 (if_pos ⟨(show (2 : Nat) < 9 by decide), h⟩)
  | some v => cases v <;> exact gs_go f_244_7 (if_pos ⟨(show (2 : Nat) < 9 by decide), h⟩)
theorem f_244_8 : ft 244 8 = some (16, .iconst 1, []) := rfl
theorem s_244_8 {d : Nat} {σ : xS} {st : List Value} {Q : xR → xS → Prop} {l0 l1 l2 l3 l4 l5 l6 l7 l8 : Option Value} : G d 244 8 [l0, l1, l2, l3, l4, l5, l6, l7, l8] st σ Q ↔ G d 244 9 [l0, l1, l2, l3, l4, l5, l6, l7, l8] (.int (1) :: st) σ Q := gs_go f_244_8 rfl
theorem f_244_9 : ft 244 9 = some (17, .newarray .long, [3]) := rfl
theorem f_244_10 : ft 244 10 = some (19, .astore_n 3, []) := rfl
theorem s_244_10 {d : Nat} {σ : xS} {st : List Value} {Q : xR → xS → Prop} {l0 l1 l2 l3 l4 l5 l6 l7 l8 : Option Value} {x : Nat} (h : x < 1000000) : G d 244 10 [l0, l1, l2, l3, l4, l5, l6, l7, l8] (.ref x :: st) σ Q ↔ G d 244 11 [l0, l1, ykl l2, some (.ref x), l4, l5, l6, l7, l8] st σ Q := by
  cases l2 with
  | none => exact gs_go f_244_10 (if_pos ⟨(show (3 : Nat) < 9 by decide), h⟩)
  | some v => cases v <;> exact gs_go f_244_10 (if_pos ⟨(show (3 : Nat) < 9 by decide), h⟩)
theorem f_244_11 : ft 244 11 = some (20, .iconst 0, []) := rfl
theorem s_244_11 {d : Nat} {σ : xS} {st : List Value} {Q : xR → xS → Prop} {l0 l1 l2 l3 l4 l5 l6 l7 l8 : Option Value} : G d 244 11 [l0, l1, l2, l3, l4, l5, l6, l7, l8] st σ Q ↔ G d 244 12 [l0, l1, l2, l3, l4, l5, l6, l7, l8] (.int (0) :: st) σ Q := gs_go f_244_11 rfl
theorem f_244_12 : ft 244 12 = some (21, .istore 4, []) := rfl
theorem s_244_12 {d : Nat} {σ : xS} {st : List Value} {Q : xR → xS → Prop} {l0 l1 l2 l3 l4 l5 l6 l7 l8 : Option Value} {x : Int32} : G d 244 12 [l0, l1, l2, l3, l4, l5, l6, l7, l8] (.int x :: st) σ Q ↔ G d 244 13 [l0, l1, l2, ykl l3, some (.int x), l5, l6, l7, l8] st σ Q := by
  cases l3 with
  | none => exact gs_go f_244_12 rfl
  | some v => cases v <;> exact gs_go f_244_12 rfl
theorem f_244_13 : ft 244 13 = some (23, .iload 4, []) := rfl
theorem s_244_13 {d : Nat} {σ : xS} {st : List Value} {Q : xR → xS → Prop} {l0 l1 l2 l3 l5 l6 l7 l8 : Option Value} {x : Int32} : G d 244 13 [l0, l1, l2, l3, some (.int x), l5, l6, l7, l8] st σ Q ↔ G d 244 14 [l0, l1, l2, l3, some (.int x), l5, l6, l7, l8] (.int x :: st) σ Q := gs_go f_244_13 rfl
theorem f_244_14 : ft 244 14 = some (25, .aload_n 0, []) := rfl
theorem s_244_14 {d : Nat} {σ : xS} {st : List Value} {Q : xR → xS → Prop} {l1 l2 l3 l4 l5 l6 l7 l8 : Option Value} {x : Nat} : G d 244 14 [some (.ref x), l1, l2, l3, l4, l5, l6, l7, l8] st σ Q ↔ G d 244 15 [some (.ref x), l1, l2, l3, l4, l5, l6, l7, l8] (.ref x :: st) σ Q := gs_go f_244_14 rfl
theorem f_244_15 : ft 244 15 = some (26, .arraylength, []) := rfl
theorem f_244_16 : ft 244 16 = some (27, .bipush 6, []) := rfl
theorem s_244_16 {d : Nat} {σ : xS} {st : List Value} {Q : xR → xS → Prop} {l0 l1 l2 l3 l4 l5 l6 l7 l8 : Option Value} : G d 244 16 [l0, l1, l2, l3, l4, l5, l6, l7, l8] st σ Q ↔ G d 244 17 [l0, l1, l2, l3, l4, l5, l6, l7, l8] (.int (6) :: st) σ Q := gs_go f_244_16 rfl
theorem f_244_17 : ft 244 17 = some (29, .isub, []) := rfl
theorem s_244_17 {d : Nat} {σ : xS} {st : List Value} {Q : xR → xS → Prop} {l0 l1 l2 l3 l4 l5 l6 l7 l8 : Option Value} {x y : Int32} : G d 244 17 [l0, l1, l2, l3, l4, l5, l6, l7, l8] (.int y :: .int x :: st) σ Q ↔ G d 244 18 [l0, l1, l2, l3, l4, l5, l6, l7, l8] (.int (x - y) :: st) σ Q := gs_go f_244_17 rfl
theorem f_244_18 : ft 244 18 = some (30, .if_icmp .gt 1462, [881]) := rfl
theorem s_244_18 {d : Nat} {σ : xS} {st : List Value} {Q : xR → xS → Prop} {l0 l1 l2 l3 l4 l5 l6 l7 l8 : Option Value} {x y : Int32} : G d 244 18 [l0, l1, l2, l3, l4, l5, l6, l7, l8] (.int y :: .int x :: st) σ Q ↔ if y < x then G d 244 881 [l0, l1, l2, l3, l4, l5, l6, l7, l8] st σ Q else G d 244 19 [l0, l1, l2, l3, l4, l5, l6, l7, l8] st σ Q := gs_if f_244_18 rfl
theorem f_244_19 : ft 244 19 = some (33, .aload_n 0, []) := rfl
theorem s_244_19 {d : Nat} {σ : xS} {st : List Value} {Q : xR → xS → Prop} {l1 l2 l3 l4 l5 l6 l7 l8 : Option Value} {x : Nat} : G d 244 19 [some (.ref x), l1, l2, l3, l4, l5, l6, l7, l8] st σ Q ↔ G d 244 20 [some (.ref x), l1, l2, l3, l4, l5, l6, l7, l8] (.ref x :: st) σ Q := gs_go f_244_19 rfl
theorem f_244_20 : ft 244 20 = some (34, .iload 4, []) := rfl
theorem s_244_20 {d : Nat} {σ : xS} {st : List Value} {Q : xR → xS → Prop} {l0 l1 l2 l3 l5 l6 l7 l8 : Option Value} {x : Int32} : G d 244 20 [l0, l1, l2, l3, some (.int x), l5, l6, l7, l8] st σ Q ↔ G d 244 21 [l0, l1, l2, l3, some (.int x), l5, l6, l7, l8] (.int x :: st) σ Q := gs_go f_244_20 rfl
theorem f_244_21 : ft 244 21 = some (36, .iaload, []) := rfl
theorem s_244_21 {d : Nat} {t : yT} {st : List Value} {Q : xR → xS → Prop} {l0 l1 l2 l3 l4 l5 l6 l7 l8 : Option Value} {a : Nat} {x : Int32} (ha : yA 0 a) : G d 244 21 [l0, l1, l2, l3, l4, l5, l6, l7, l8] (.int x :: .ref a :: st) (yemb t) Q ↔ yix x (yn a) ∧ G d 244 22 [l0, l1, l2, l3, l4, l5, l6, l7, l8] (.int (t.A a x.toNatClampNeg) :: st) (yemb t) Q := gs_iald f_244_21 ha
theorem f_244_22 : ft 244 22 = some (37, .bipush 31, []) := rfl
theorem s_244_22 {d : Nat} {σ : xS} {st : List Value} {Q : xR → xS → Prop} {l0 l1 l2 l3 l4 l5 l6 l7 l8 : Option Value} : G d 244 22 [l0, l1, l2, l3, l4, l5, l6, l7, l8] st σ Q ↔ G d 244 23 [l0, l1, l2, l3, l4, l5, l6, l7, l8] (.int (31) :: st) σ Q := gs_go f_244_22 rfl
theorem f_244_23 : ft 244 23 = some (39, .iand, []) := rfl
theorem s_244_23 {d : Nat} {σ : xS} {st : List Value} {Q : xR → xS → Prop} {l0 l1 l2 l3 l4 l5 l6 l7 l8 : Option Value} {x y : Int32} : G d 244 23 [l0, l1, l2, l3, l4, l5, l6, l7, l8] (.int y :: .int x :: st) σ Q ↔ G d 244 24 [l0, l1, l2, l3, l4, l5, l6, l7, l8] (.int (x &&& y) :: st) σ Q := gs_go f_244_23 rfl
theorem f_244_24 : ft 244 24 = some (40, .tableswitch 1446 0 24 #[116, 189, 245, 301, 314, 327, 383, 451, 519, 575, 631, 687, 742, 755, 796, 900, 956, 1012, 1068, 1159, 1239, 1307, 1363, 1419, 1432], [879, 25, 82, 117, 152, 159, 166, 201, 246, 291, 326, 361, 396, 430, 437, 458, 533, 568, 603, 638, 694, 749, 794, 829, 864, 871]) := rfl
theorem s_244_24_0 {d : Nat} {σ : xS} {st : List Value} {Q : xR → xS → Prop} {l0 l1 l2 l3 l4 l5 l6 l7 l8 : Option Value} : G d 244 24 [l0, l1, l2, l3, l4, l5, l6, l7, l8] (.int (0) :: st) σ Q ↔ G d 244 25 [l0, l1, l2, l3, l4, l5, l6, l7, l8] st σ Q := gs_go f_244_24 rfl
theorem s_244_24_1 {d : Nat} {σ : xS} {st : List Value} {Q : xR → xS → Prop} {l0 l1 l2 l3 l4 l5 l6 l7 l8 : Option Value} : G d 244 24 [l0, l1, l2, l3, l4, l5, l6, l7, l8] (.int (1) :: st) σ Q ↔ G d 244 82 [l0, l1, l2, l3, l4, l5, l6, l7, l8] st σ Q := gs_go f_244_24 rfl
theorem s_244_24_2 {d : Nat} {σ : xS} {st : List Value} {Q : xR → xS → Prop} {l0 l1 l2 l3 l4 l5 l6 l7 l8 : Option Value} : G d 244 24 [l0, l1, l2, l3, l4, l5, l6, l7, l8] (.int (2) :: st) σ Q ↔ G d 244 117 [l0, l1, l2, l3, l4, l5, l6, l7, l8] st σ Q := gs_go f_244_24 rfl
theorem s_244_24_3 {d : Nat} {σ : xS} {st : List Value} {Q : xR → xS → Prop} {l0 l1 l2 l3 l4 l5 l6 l7 l8 : Option Value} : G d 244 24 [l0, l1, l2, l3, l4, l5, l6, l7, l8] (.int (3) :: st) σ Q ↔ G d 244 152 [l0, l1, l2, l3, l4, l5, l6, l7, l8] st σ Q := gs_go f_244_24 rfl
theorem s_244_24_4 {d : Nat} {σ : xS} {st : List Value} {Q : xR → xS → Prop} {l0 l1 l2 l3 l4 l5 l6 l7 l8 : Option Value} : G d 244 24 [l0, l1, l2, l3, l4, l5, l6, l7, l8] (.int (4) :: st) σ Q ↔ G d 244 159 [l0, l1, l2, l3, l4, l5, l6, l7, l8] st σ Q := gs_go f_244_24 rfl
theorem s_244_24_5 {d : Nat} {σ : xS} {st : List Value} {Q : xR → xS → Prop} {l0 l1 l2 l3 l4 l5 l6 l7 l8 : Option Value} : G d 244 24 [l0, l1, l2, l3, l4, l5, l6, l7, l8] (.int (5) :: st) σ Q ↔ G d 244 166 [l0, l1, l2, l3, l4, l5, l6, l7, l8] st σ Q := gs_go f_244_24 rfl
theorem s_244_24_6 {d : Nat} {σ : xS} {st : List Value} {Q : xR → xS → Prop} {l0 l1 l2 l3 l4 l5 l6 l7 l8 : Option Value} : G d 244 24 [l0, l1, l2, l3, l4, l5, l6, l7, l8] (.int (6) :: st) σ Q ↔ G d 244 201 [l0, l1, l2, l3, l4, l5, l6, l7, l8] st σ Q := gs_go f_244_24 rfl
theorem s_244_24_7 {d : Nat} {σ : xS} {st : List Value} {Q : xR → xS → Prop} {l0 l1 l2 l3 l4 l5 l6 l7 l8 : Option Value} : G d 244 24 [l0, l1, l2, l3, l4, l5, l6, l7, l8] (.int (7) :: st) σ Q ↔ G d 244 246 [l0, l1, l2, l3, l4, l5, l6, l7, l8] st σ Q := gs_go f_244_24 rfl
theorem s_244_24_8 {d : Nat} {σ : xS} {st : List Value} {Q : xR → xS → Prop} {l0 l1 l2 l3 l4 l5 l6 l7 l8 : Option Value} : G d 244 24 [l0, l1, l2, l3, l4, l5, l6, l7, l8] (.int (8) :: st) σ Q ↔ G d 244 291 [l0, l1, l2, l3, l4, l5, l6, l7, l8] st σ Q := gs_go f_244_24 rfl
theorem s_244_24_9 {d : Nat} {σ : xS} {st : List Value} {Q : xR → xS → Prop} {l0 l1 l2 l3 l4 l5 l6 l7 l8 : Option Value} : G d 244 24 [l0, l1, l2, l3, l4, l5, l6, l7, l8] (.int (9) :: st) σ Q ↔ G d 244 326 [l0, l1, l2, l3, l4, l5, l6, l7, l8] st σ Q := gs_go f_244_24 rfl
theorem s_244_24_10 {d : Nat} {σ : xS} {st : List Value} {Q : xR → xS → Prop} {l0 l1 l2 l3 l4 l5 l6 l7 l8 : Option Value} : G d 244 24 [l0, l1, l2, l3, l4, l5, l6, l7, l8] (.int (10) :: st) σ Q ↔ G d 244 361 [l0, l1, l2, l3, l4, l5, l6, l7, l8] st σ Q := gs_go f_244_24 rfl
theorem s_244_24_11 {d : Nat} {σ : xS} {st : List Value} {Q : xR → xS → Prop} {l0 l1 l2 l3 l4 l5 l6 l7 l8 : Option Value} : G d 244 24 [l0, l1, l2, l3, l4, l5, l6, l7, l8] (.int (11) :: st) σ Q ↔ G d 244 396 [l0, l1, l2, l3, l4, l5, l6, l7, l8] st σ Q := gs_go f_244_24 rfl
theorem s_244_24_12 {d : Nat} {σ : xS} {st : List Value} {Q : xR → xS → Prop} {l0 l1 l2 l3 l4 l5 l6 l7 l8 : Option Value} : G d 244 24 [l0, l1, l2, l3, l4, l5, l6, l7, l8] (.int (12) :: st) σ Q ↔ G d 244 430 [l0, l1, l2, l3, l4, l5, l6, l7, l8] st σ Q := gs_go f_244_24 rfl
theorem s_244_24_13 {d : Nat} {σ : xS} {st : List Value} {Q : xR → xS → Prop} {l0 l1 l2 l3 l4 l5 l6 l7 l8 : Option Value} : G d 244 24 [l0, l1, l2, l3, l4, l5, l6, l7, l8] (.int (13) :: st) σ Q ↔ G d 244 437 [l0, l1, l2, l3, l4, l5, l6, l7, l8] st σ Q := gs_go f_244_24 rfl
theorem s_244_24_14 {d : Nat} {σ : xS} {st : List Value} {Q : xR → xS → Prop} {l0 l1 l2 l3 l4 l5 l6 l7 l8 : Option Value} : G d 244 24 [l0, l1, l2, l3, l4, l5, l6, l7, l8] (.int (14) :: st) σ Q ↔ G d 244 458 [l0, l1, l2, l3, l4, l5, l6, l7, l8] st σ Q := gs_go f_244_24 rfl
theorem s_244_24_15 {d : Nat} {σ : xS} {st : List Value} {Q : xR → xS → Prop} {l0 l1 l2 l3 l4 l5 l6 l7 l8 : Option Value} : G d 244 24 [l0, l1, l2, l3, l4, l5, l6, l7, l8] (.int (15) :: st) σ Q ↔ G d 244 533 [l0, l1, l2, l3, l4, l5, l6, l7, l8] st σ Q := gs_go f_244_24 rfl
theorem s_244_24_16 {d : Nat} {σ : xS} {st : List Value} {Q : xR → xS → Prop} {l0 l1 l2 l3 l4 l5 l6 l7 l8 : Option Value} : G d 244 24 [l0, l1, l2, l3, l4, l5, l6, l7, l8] (.int (16) :: st) σ Q ↔ G d 244 568 [l0, l1, l2, l3, l4, l5, l6, l7, l8] st σ Q := gs_go f_244_24 rfl
theorem s_244_24_17 {d : Nat} {σ : xS} {st : List Value} {Q : xR → xS → Prop} {l0 l1 l2 l3 l4 l5 l6 l7 l8 : Option Value} : G d 244 24 [l0, l1, l2, l3, l4, l5, l6, l7, l8] (.int (17) :: st) σ Q ↔ G d 244 603 [l0, l1, l2, l3, l4, l5, l6, l7, l8] st σ Q := gs_go f_244_24 rfl
theorem s_244_24_18 {d : Nat} {σ : xS} {st : List Value} {Q : xR → xS → Prop} {l0 l1 l2 l3 l4 l5 l6 l7 l8 : Option Value} : G d 244 24 [l0, l1, l2, l3, l4, l5, l6, l7, l8] (.int (18) :: st) σ Q ↔ G d 244 638 [l0, l1, l2, l3, l4, l5, l6, l7, l8] st σ Q := gs_go f_244_24 rfl
theorem s_244_24_19 {d : Nat} {σ : xS} {st : List Value} {Q : xR → xS → Prop} {l0 l1 l2 l3 l4 l5 l6 l7 l8 : Option Value} : G d 244 24 [l0, l1, l2, l3, l4, l5, l6, l7, l8] (.int (19) :: st) σ Q ↔ G d 244 694 [l0, l1, l2, l3, l4, l5, l6, l7, l8] st σ Q := gs_go f_244_24 rfl
theorem s_244_24_20 {d : Nat} {σ : xS} {st : List Value} {Q : xR → xS → Prop} {l0 l1 l2 l3 l4 l5 l6 l7 l8 : Option Value} : G d 244 24 [l0, l1, l2, l3, l4, l5, l6, l7, l8] (.int (20) :: st) σ Q ↔ G d 244 749 [l0, l1, l2, l3, l4, l5, l6, l7, l8] st σ Q := gs_go f_244_24 rfl
theorem s_244_24_21 {d : Nat} {σ : xS} {st : List Value} {Q : xR → xS → Prop} {l0 l1 l2 l3 l4 l5 l6 l7 l8 : Option Value} : G d 244 24 [l0, l1, l2, l3, l4, l5, l6, l7, l8] (.int (21) :: st) σ Q ↔ G d 244 794 [l0, l1, l2, l3, l4, l5, l6, l7, l8] st σ Q := gs_go f_244_24 rfl
theorem s_244_24_22 {d : Nat} {σ : xS} {st : List Value} {Q : xR → xS → Prop} {l0 l1 l2 l3 l4 l5 l6 l7 l8 : Option Value} : G d 244 24 [l0, l1, l2, l3, l4, l5, l6, l7, l8] (.int (22) :: st) σ Q ↔ G d 244 829 [l0, l1, l2, l3, l4, l5, l6, l7, l8] st σ Q := gs_go f_244_24 rfl
theorem s_244_24_23 {d : Nat} {σ : xS} {st : List Value} {Q : xR → xS → Prop} {l0 l1 l2 l3 l4 l5 l6 l7 l8 : Option Value} : G d 244 24 [l0, l1, l2, l3, l4, l5, l6, l7, l8] (.int (23) :: st) σ Q ↔ G d 244 864 [l0, l1, l2, l3, l4, l5, l6, l7, l8] st σ Q := gs_go f_244_24 rfl
theorem s_244_24_24 {d : Nat} {σ : xS} {st : List Value} {Q : xR → xS → Prop} {l0 l1 l2 l3 l4 l5 l6 l7 l8 : Option Value} : G d 244 24 [l0, l1, l2, l3, l4, l5, l6, l7, l8] (.int (24) :: st) σ Q ↔ G d 244 871 [l0, l1, l2, l3, l4, l5, l6, l7, l8] st σ Q := gs_go f_244_24 rfl
theorem s_244_24_d {d : Nat} {σ : xS} {st : List Value} {Q : xR → xS → Prop} {l0 l1 l2 l3 l4 l5 l6 l7 l8 : Option Value} {x : Int32} (h : x.toInt < 0 ∨ 24 < x.toInt) : G d 244 24 [l0, l1, l2, l3, l4, l5, l6, l7, l8] (.int x :: st) σ Q ↔ G d 244 879 [l0, l1, l2, l3, l4, l5, l6, l7, l8] st σ Q := gs_go f_244_24 (if_pos h)
theorem f_244_25 : ft 244 25 = some (156, .aload_n 1, []) := rfl
theorem s_244_25 {d : Nat} {σ : xS} {st : List Value} {Q : xR → xS → Prop} {l0 l2 l3 l4 l5 l6 l7 l8 : Option Value} {x : Nat} : G d 244 25 [l0, some (.ref x), l2, l3, l4, l5, l6, l7, l8] st σ Q ↔ G d 244 26 [l0, some (.ref x), l2, l3, l4, l5, l6, l7, l8] (.ref x :: st) σ Q := gs_go f_244_25 rfl
theorem f_244_26 : ft 244 26 = some (157, .aload_n 0, []) := rfl
theorem s_244_26 {d : Nat} {σ : xS} {st : List Value} {Q : xR → xS → Prop} {l1 l2 l3 l4 l5 l6 l7 l8 : Option Value} {x : Nat} : G d 244 26 [some (.ref x), l1, l2, l3, l4, l5, l6, l7, l8] st σ Q ↔ G d 244 27 [some (.ref x), l1, l2, l3, l4, l5, l6, l7, l8] (.ref x :: st) σ Q := gs_go f_244_26 rfl
theorem f_244_27 : ft 244 27 = some (158, .iload 4, []) := rfl
theorem s_244_27 {d : Nat} {σ : xS} {st : List Value} {Q : xR → xS → Prop} {l0 l1 l2 l3 l5 l6 l7 l8 : Option Value} {x : Int32} : G d 244 27 [l0, l1, l2, l3, some (.int x), l5, l6, l7, l8] st σ Q ↔ G d 244 28 [l0, l1, l2, l3, some (.int x), l5, l6, l7, l8] (.int x :: st) σ Q := gs_go f_244_27 rfl
theorem f_244_28 : ft 244 28 = some (160, .iconst 1, []) := rfl
theorem s_244_28 {d : Nat} {σ : xS} {st : List Value} {Q : xR → xS → Prop} {l0 l1 l2 l3 l4 l5 l6 l7 l8 : Option Value} : G d 244 28 [l0, l1, l2, l3, l4, l5, l6, l7, l8] st σ Q ↔ G d 244 29 [l0, l1, l2, l3, l4, l5, l6, l7, l8] (.int (1) :: st) σ Q := gs_go f_244_28 rfl
theorem f_244_29 : ft 244 29 = some (161, .iadd, []) := rfl
theorem s_244_29 {d : Nat} {σ : xS} {st : List Value} {Q : xR → xS → Prop} {l0 l1 l2 l3 l4 l5 l6 l7 l8 : Option Value} {x y : Int32} : G d 244 29 [l0, l1, l2, l3, l4, l5, l6, l7, l8] (.int y :: .int x :: st) σ Q ↔ G d 244 30 [l0, l1, l2, l3, l4, l5, l6, l7, l8] (.int (x + y) :: st) σ Q := gs_go f_244_29 rfl
theorem f_244_30 : ft 244 30 = some (162, .iaload, []) := rfl
theorem s_244_30 {d : Nat} {t : yT} {st : List Value} {Q : xR → xS → Prop} {l0 l1 l2 l3 l4 l5 l6 l7 l8 : Option Value} {a : Nat} {x : Int32} (ha : yA 0 a) : G d 244 30 [l0, l1, l2, l3, l4, l5, l6, l7, l8] (.int x :: .ref a :: st) (yemb t) Q ↔ yix x (yn a) ∧ G d 244 31 [l0, l1, l2, l3, l4, l5, l6, l7, l8] (.int (t.A a x.toNatClampNeg) :: st) (yemb t) Q := gs_iald f_244_30 ha
theorem f_244_31 : ft 244 31 = some (163, .aload_n 0, []) := rfl
theorem s_244_31 {d : Nat} {σ : xS} {st : List Value} {Q : xR → xS → Prop} {l1 l2 l3 l4 l5 l6 l7 l8 : Option Value} {x : Nat} : G d 244 31 [some (.ref x), l1, l2, l3, l4, l5, l6, l7, l8] st σ Q ↔ G d 244 32 [some (.ref x), l1, l2, l3, l4, l5, l6, l7, l8] (.ref x :: st) σ Q := gs_go f_244_31 rfl
theorem f_244_32 : ft 244 32 = some (164, .iload 4, []) := rfl
theorem s_244_32 {d : Nat} {σ : xS} {st : List Value} {Q : xR → xS → Prop} {l0 l1 l2 l3 l5 l6 l7 l8 : Option Value} {x : Int32} : G d 244 32 [l0, l1, l2, l3, some (.int x), l5, l6, l7, l8] st σ Q ↔ G d 244 33 [l0, l1, l2, l3, some (.int x), l5, l6, l7, l8] (.int x :: st) σ Q := gs_go f_244_32 rfl
theorem f_244_33 : ft 244 33 = some (166, .iconst 2, []) := rfl
theorem s_244_33 {d : Nat} {σ : xS} {st : List Value} {Q : xR → xS → Prop} {l0 l1 l2 l3 l4 l5 l6 l7 l8 : Option Value} : G d 244 33 [l0, l1, l2, l3, l4, l5, l6, l7, l8] st σ Q ↔ G d 244 34 [l0, l1, l2, l3, l4, l5, l6, l7, l8] (.int (2) :: st) σ Q := gs_go f_244_33 rfl
theorem f_244_34 : ft 244 34 = some (167, .iadd, []) := rfl
theorem s_244_34 {d : Nat} {σ : xS} {st : List Value} {Q : xR → xS → Prop} {l0 l1 l2 l3 l4 l5 l6 l7 l8 : Option Value} {x y : Int32} : G d 244 34 [l0, l1, l2, l3, l4, l5, l6, l7, l8] (.int y :: .int x :: st) σ Q ↔ G d 244 35 [l0, l1, l2, l3, l4, l5, l6, l7, l8] (.int (x + y) :: st) σ Q := gs_go f_244_34 rfl
theorem f_244_35 : ft 244 35 = some (168, .iaload, []) := rfl
theorem s_244_35 {d : Nat} {t : yT} {st : List Value} {Q : xR → xS → Prop} {l0 l1 l2 l3 l4 l5 l6 l7 l8 : Option Value} {a : Nat} {x : Int32} (ha : yA 0 a) : G d 244 35 [l0, l1, l2, l3, l4, l5, l6, l7, l8] (.int x :: .ref a :: st) (yemb t) Q ↔ yix x (yn a) ∧ G d 244 36 [l0, l1, l2, l3, l4, l5, l6, l7, l8] (.int (t.A a x.toNatClampNeg) :: st) (yemb t) Q := gs_iald f_244_35 ha
theorem f_244_36 : ft 244 36 = some (169, .aload_n 0, []) := rfl
theorem s_244_36 {d : Nat} {σ : xS} {st : List Value} {Q : xR → xS → Prop} {l1 l2 l3 l4 l5 l6 l7 l8 : Option Value} {x : Nat} : G d 244 36 [some (.ref x), l1, l2, l3, l4, l5, l6, l7, l8] st σ Q ↔ G d 244 37 [some (.ref x), l1, l2, l3, l4, l5, l6, l7, l8] (.ref x :: st) σ Q := gs_go f_244_36 rfl
theorem f_244_37 : ft 244 37 = some (170, .iload 4, []) := rfl
theorem s_244_37 {d : Nat} {σ : xS} {st : List Value} {Q : xR → xS → Prop} {l0 l1 l2 l3 l5 l6 l7 l8 : Option Value} {x : Int32} : G d 244 37 [l0, l1, l2, l3, some (.int x), l5, l6, l7, l8] st σ Q ↔ G d 244 38 [l0, l1, l2, l3, some (.int x), l5, l6, l7, l8] (.int x :: st) σ Q := gs_go f_244_37 rfl
theorem f_244_38 : ft 244 38 = some (172, .iconst 3, []) := rfl
theorem s_244_38 {d : Nat} {σ : xS} {st : List Value} {Q : xR → xS → Prop} {l0 l1 l2 l3 l4 l5 l6 l7 l8 : Option Value} : G d 244 38 [l0, l1, l2, l3, l4, l5, l6, l7, l8] st σ Q ↔ G d 244 39 [l0, l1, l2, l3, l4, l5, l6, l7, l8] (.int (3) :: st) σ Q := gs_go f_244_38 rfl
theorem f_244_39 : ft 244 39 = some (173, .iadd, []) := rfl
theorem s_244_39 {d : Nat} {σ : xS} {st : List Value} {Q : xR → xS → Prop} {l0 l1 l2 l3 l4 l5 l6 l7 l8 : Option Value} {x y : Int32} : G d 244 39 [l0, l1, l2, l3, l4, l5, l6, l7, l8] (.int y :: .int x :: st) σ Q ↔ G d 244 40 [l0, l1, l2, l3, l4, l5, l6, l7, l8] (.int (x + y) :: st) σ Q := gs_go f_244_39 rfl
theorem f_244_40 : ft 244 40 = some (174, .iaload, []) := rfl
theorem s_244_40 {d : Nat} {t : yT} {st : List Value} {Q : xR → xS → Prop} {l0 l1 l2 l3 l4 l5 l6 l7 l8 : Option Value} {a : Nat} {x : Int32} (ha : yA 0 a) : G d 244 40 [l0, l1, l2, l3, l4, l5, l6, l7, l8] (.int x :: .ref a :: st) (yemb t) Q ↔ yix x (yn a) ∧ G d 244 41 [l0, l1, l2, l3, l4, l5, l6, l7, l8] (.int (t.A a x.toNatClampNeg) :: st) (yemb t) Q := gs_iald f_244_40 ha
theorem f_244_41 : ft 244 41 = some (175, .aload_n 0, []) := rfl
theorem s_244_41 {d : Nat} {σ : xS} {st : List Value} {Q : xR → xS → Prop} {l1 l2 l3 l4 l5 l6 l7 l8 : Option Value} {x : Nat} : G d 244 41 [some (.ref x), l1, l2, l3, l4, l5, l6, l7, l8] st σ Q ↔ G d 244 42 [some (.ref x), l1, l2, l3, l4, l5, l6, l7, l8] (.ref x :: st) σ Q := gs_go f_244_41 rfl
theorem f_244_42 : ft 244 42 = some (176, .iload 4, []) := rfl
theorem s_244_42 {d : Nat} {σ : xS} {st : List Value} {Q : xR → xS → Prop} {l0 l1 l2 l3 l5 l6 l7 l8 : Option Value} {x : Int32} : G d 244 42 [l0, l1, l2, l3, some (.int x), l5, l6, l7, l8] st σ Q ↔ G d 244 43 [l0, l1, l2, l3, some (.int x), l5, l6, l7, l8] (.int x :: st) σ Q := gs_go f_244_42 rfl
theorem f_244_43 : ft 244 43 = some (178, .iconst 4, []) := rfl
theorem s_244_43 {d : Nat} {σ : xS} {st : List Value} {Q : xR → xS → Prop} {l0 l1 l2 l3 l4 l5 l6 l7 l8 : Option Value} : G d 244 43 [l0, l1, l2, l3, l4, l5, l6, l7, l8] st σ Q ↔ G d 244 44 [l0, l1, l2, l3, l4, l5, l6, l7, l8] (.int (4) :: st) σ Q := gs_go f_244_43 rfl
theorem f_244_44 : ft 244 44 = some (179, .iadd, []) := rfl
theorem s_244_44 {d : Nat} {σ : xS} {st : List Value} {Q : xR → xS → Prop} {l0 l1 l2 l3 l4 l5 l6 l7 l8 : Option Value} {x y : Int32} : G d 244 44 [l0, l1, l2, l3, l4, l5, l6, l7, l8] (.int y :: .int x :: st) σ Q ↔ G d 244 45 [l0, l1, l2, l3, l4, l5, l6, l7, l8] (.int (x + y) :: st) σ Q := gs_go f_244_44 rfl
theorem f_244_45 : ft 244 45 = some (180, .iaload, []) := rfl
theorem s_244_45 {d : Nat} {t : yT} {st : List Value} {Q : xR → xS → Prop} {l0 l1 l2 l3 l4 l5 l6 l7 l8 : Option Value} {a : Nat} {x : Int32} (ha : yA 0 a) : G d 244 45 [l0, l1, l2, l3, l4, l5, l6, l7, l8] (.int x :: .ref a :: st) (yemb t) Q ↔ yix x (yn a) ∧ G d 244 46 [l0, l1, l2, l3, l4, l5, l6, l7, l8] (.int (t.A a x.toNatClampNeg) :: st) (yemb t) Q := gs_iald f_244_45 ha
theorem f_244_46 : ft 244 46 = some (181, .aload_n 0, []) := rfl
theorem s_244_46 {d : Nat} {σ : xS} {st : List Value} {Q : xR → xS → Prop} {l1 l2 l3 l4 l5 l6 l7 l8 : Option Value} {x : Nat} : G d 244 46 [some (.ref x), l1, l2, l3, l4, l5, l6, l7, l8] st σ Q ↔ G d 244 47 [some (.ref x), l1, l2, l3, l4, l5, l6, l7, l8] (.ref x :: st) σ Q := gs_go f_244_46 rfl
theorem f_244_47 : ft 244 47 = some (182, .iload 4, []) := rfl
theorem s_244_47 {d : Nat} {σ : xS} {st : List Value} {Q : xR → xS → Prop} {l0 l1 l2 l3 l5 l6 l7 l8 : Option Value} {x : Int32} : G d 244 47 [l0, l1, l2, l3, some (.int x), l5, l6, l7, l8] st σ Q ↔ G d 244 48 [l0, l1, l2, l3, some (.int x), l5, l6, l7, l8] (.int x :: st) σ Q := gs_go f_244_47 rfl
theorem f_244_48 : ft 244 48 = some (184, .iconst 5, []) := rfl
theorem s_244_48 {d : Nat} {σ : xS} {st : List Value} {Q : xR → xS → Prop} {l0 l1 l2 l3 l4 l5 l6 l7 l8 : Option Value} : G d 244 48 [l0, l1, l2, l3, l4, l5, l6, l7, l8] st σ Q ↔ G d 244 49 [l0, l1, l2, l3, l4, l5, l6, l7, l8] (.int (5) :: st) σ Q := gs_go f_244_48 rfl
theorem f_244_49 : ft 244 49 = some (185, .iadd, []) := rfl
theorem s_244_49 {d : Nat} {σ : xS} {st : List Value} {Q : xR → xS → Prop} {l0 l1 l2 l3 l4 l5 l6 l7 l8 : Option Value} {x y : Int32} : G d 244 49 [l0, l1, l2, l3, l4, l5, l6, l7, l8] (.int y :: .int x :: st) σ Q ↔ G d 244 50 [l0, l1, l2, l3, l4, l5, l6, l7, l8] (.int (x + y) :: st) σ Q := gs_go f_244_49 rfl
theorem f_244_50 : ft 244 50 = some (186, .iaload, []) := rfl
theorem s_244_50 {d : Nat} {t : yT} {st : List Value} {Q : xR → xS → Prop} {l0 l1 l2 l3 l4 l5 l6 l7 l8 : Option Value} {a : Nat} {x : Int32} (ha : yA 0 a) : G d 244 50 [l0, l1, l2, l3, l4, l5, l6, l7, l8] (.int x :: .ref a :: st) (yemb t) Q ↔ yix x (yn a) ∧ G d 244 51 [l0, l1, l2, l3, l4, l5, l6, l7, l8] (.int (t.A a x.toNatClampNeg) :: st) (yemb t) Q := gs_iald f_244_50 ha
theorem f_244_51 : ft 244 51 = some (187, .invokevirtual 81, [94, 6, 0, 403]) := rfl
theorem s_244_51 {d : Nat} {t : yT} {st : List Value} {Q : xR → xS → Prop} {l0 l1 l2 l3 l4 l5 l6 l7 l8 : Option Value} {a0 : Nat} {a1 : Int32} {a2 : Int32} {a3 : Int32} {a4 : Int32} {a5 : Int32} (ho : yisO 7 a0) : G (d + 1) 244 51 [l0, l1, l2, l3, l4, l5, l6, l7, l8] (.int a5 :: .int a4 :: .int a3 :: .int a2 :: .int a1 :: .ref a0 :: st) (yemb t) Q ↔ xcat st ≤ 8 ∧ Cl d 94 [.ref a0, .int a1, .int a2, .int a3, .int a4, .int a5] (yemb t) (Gk (d + 1) 244 51 [l0, l1, l2, l3, l4, l5, l6, l7, l8] st Q) := gs_call f_244_51 ((xinv_call (i := 51) (n := 403) (ls := [l0, l1, l2, l3, l4, l5, l6, l7, l8]) (kind := 0) (σ := yemb t) (by decide)).trans (xcall_vi [.int a5, .int a4, .int a3, .int a2, .int a1, .ref a0] rfl rfl (show (6 : Nat) ≤ 6 by decide) rfl ho))
theorem f_244_52 : ft 244 52 = some (190, .aload_n 2, []) := rfl
theorem s_244_52 {d : Nat} {σ : xS} {st : List Value} {Q : xR → xS → Prop} {l0 l1 l3 l4 l5 l6 l7 l8 : Option Value} {x : Nat} : G d 244 52 [l0, l1, some (.ref x), l3, l4, l5, l6, l7, l8] st σ Q ↔ G d 244 53 [l0, l1, some (.ref x), l3, l4, l5, l6, l7, l8] (.ref x :: st) σ Q := gs_go f_244_52 rfl
theorem f_244_53 : ft 244 53 = some (191, .aload_n 0, []) := rfl
theorem s_244_53 {d : Nat} {σ : xS} {st : List Value} {Q : xR → xS → Prop} {l1 l2 l3 l4 l5 l6 l7 l8 : Option Value} {x : Nat} : G d 244 53 [some (.ref x), l1, l2, l3, l4, l5, l6, l7, l8] st σ Q ↔ G d 244 54 [some (.ref x), l1, l2, l3, l4, l5, l6, l7, l8] (.ref x :: st) σ Q := gs_go f_244_53 rfl
theorem f_244_54 : ft 244 54 = some (192, .iload 4, []) := rfl
theorem s_244_54 {d : Nat} {σ : xS} {st : List Value} {Q : xR → xS → Prop} {l0 l1 l2 l3 l5 l6 l7 l8 : Option Value} {x : Int32} : G d 244 54 [l0, l1, l2, l3, some (.int x), l5, l6, l7, l8] st σ Q ↔ G d 244 55 [l0, l1, l2, l3, some (.int x), l5, l6, l7, l8] (.int x :: st) σ Q := gs_go f_244_54 rfl
theorem f_244_55 : ft 244 55 = some (194, .iconst 1, []) := rfl
theorem s_244_55 {d : Nat} {σ : xS} {st : List Value} {Q : xR → xS → Prop} {l0 l1 l2 l3 l4 l5 l6 l7 l8 : Option Value} : G d 244 55 [l0, l1, l2, l3, l4, l5, l6, l7, l8] st σ Q ↔ G d 244 56 [l0, l1, l2, l3, l4, l5, l6, l7, l8] (.int (1) :: st) σ Q := gs_go f_244_55 rfl
theorem f_244_56 : ft 244 56 = some (195, .iadd, []) := rfl
theorem s_244_56 {d : Nat} {σ : xS} {st : List Value} {Q : xR → xS → Prop} {l0 l1 l2 l3 l4 l5 l6 l7 l8 : Option Value} {x y : Int32} : G d 244 56 [l0, l1, l2, l3, l4, l5, l6, l7, l8] (.int y :: .int x :: st) σ Q ↔ G d 244 57 [l0, l1, l2, l3, l4, l5, l6, l7, l8] (.int (x + y) :: st) σ Q := gs_go f_244_56 rfl
theorem f_244_57 : ft 244 57 = some (196, .iaload, []) := rfl
theorem s_244_57 {d : Nat} {t : yT} {st : List Value} {Q : xR → xS → Prop} {l0 l1 l2 l3 l4 l5 l6 l7 l8 : Option Value} {a : Nat} {x : Int32} (ha : yA 0 a) : G d 244 57 [l0, l1, l2, l3, l4, l5, l6, l7, l8] (.int x :: .ref a :: st) (yemb t) Q ↔ yix x (yn a) ∧ G d 244 58 [l0, l1, l2, l3, l4, l5, l6, l7, l8] (.int (t.A a x.toNatClampNeg) :: st) (yemb t) Q := gs_iald f_244_57 ha
theorem f_244_58 : ft 244 58 = some (197, .aload_n 0, []) := rfl
theorem s_244_58 {d : Nat} {σ : xS} {st : List Value} {Q : xR → xS → Prop} {l1 l2 l3 l4 l5 l6 l7 l8 : Option Value} {x : Nat} : G d 244 58 [some (.ref x), l1, l2, l3, l4, l5, l6, l7, l8] st σ Q ↔ G d 244 59 [some (.ref x), l1, l2, l3, l4, l5, l6, l7, l8] (.ref x :: st) σ Q := gs_go f_244_58 rfl
theorem f_244_59 : ft 244 59 = some (198, .iload 4, []) := rfl
theorem s_244_59 {d : Nat} {σ : xS} {st : List Value} {Q : xR → xS → Prop} {l0 l1 l2 l3 l5 l6 l7 l8 : Option Value} {x : Int32} : G d 244 59 [l0, l1, l2, l3, some (.int x), l5, l6, l7, l8] st σ Q ↔ G d 244 60 [l0, l1, l2, l3, some (.int x), l5, l6, l7, l8] (.int x :: st) σ Q := gs_go f_244_59 rfl
theorem f_244_60 : ft 244 60 = some (200, .iconst 2, []) := rfl
theorem s_244_60 {d : Nat} {σ : xS} {st : List Value} {Q : xR → xS → Prop} {l0 l1 l2 l3 l4 l5 l6 l7 l8 : Option Value} : G d 244 60 [l0, l1, l2, l3, l4, l5, l6, l7, l8] st σ Q ↔ G d 244 61 [l0, l1, l2, l3, l4, l5, l6, l7, l8] (.int (2) :: st) σ Q := gs_go f_244_60 rfl
theorem f_244_61 : ft 244 61 = some (201, .iadd, []) := rfl
theorem s_244_61 {d : Nat} {σ : xS} {st : List Value} {Q : xR → xS → Prop} {l0 l1 l2 l3 l4 l5 l6 l7 l8 : Option Value} {x y : Int32} : G d 244 61 [l0, l1, l2, l3, l4, l5, l6, l7, l8] (.int y :: .int x :: st) σ Q ↔ G d 244 62 [l0, l1, l2, l3, l4, l5, l6, l7, l8] (.int (x + y) :: st) σ Q := gs_go f_244_61 rfl
theorem f_244_62 : ft 244 62 = some (202, .iaload, []) := rfl
theorem s_244_62 {d : Nat} {t : yT} {st : List Value} {Q : xR → xS → Prop} {l0 l1 l2 l3 l4 l5 l6 l7 l8 : Option Value} {a : Nat} {x : Int32} (ha : yA 0 a) : G d 244 62 [l0, l1, l2, l3, l4, l5, l6, l7, l8] (.int x :: .ref a :: st) (yemb t) Q ↔ yix x (yn a) ∧ G d 244 63 [l0, l1, l2, l3, l4, l5, l6, l7, l8] (.int (t.A a x.toNatClampNeg) :: st) (yemb t) Q := gs_iald f_244_62 ha
theorem f_244_63 : ft 244 63 = some (203, .aload_n 0, []) := rfl
theorem s_244_63 {d : Nat} {σ : xS} {st : List Value} {Q : xR → xS → Prop} {l1 l2 l3 l4 l5 l6 l7 l8 : Option Value} {x : Nat} : G d 244 63 [some (.ref x), l1, l2, l3, l4, l5, l6, l7, l8] st σ Q ↔ G d 244 64 [some (.ref x), l1, l2, l3, l4, l5, l6, l7, l8] (.ref x :: st) σ Q := gs_go f_244_63 rfl
theorem f_244_64 : ft 244 64 = some (204, .iload 4, []) := rfl
theorem s_244_64 {d : Nat} {σ : xS} {st : List Value} {Q : xR → xS → Prop} {l0 l1 l2 l3 l5 l6 l7 l8 : Option Value} {x : Int32} : G d 244 64 [l0, l1, l2, l3, some (.int x), l5, l6, l7, l8] st σ Q ↔ G d 244 65 [l0, l1, l2, l3, some (.int x), l5, l6, l7, l8] (.int x :: st) σ Q := gs_go f_244_64 rfl
theorem f_244_65 : ft 244 65 = some (206, .iconst 3, []) := rfl
theorem s_244_65 {d : Nat} {σ : xS} {st : List Value} {Q : xR → xS → Prop} {l0 l1 l2 l3 l4 l5 l6 l7 l8 : Option Value} : G d 244 65 [l0, l1, l2, l3, l4, l5, l6, l7, l8] st σ Q ↔ G d 244 66 [l0, l1, l2, l3, l4, l5, l6, l7, l8] (.int (3) :: st) σ Q := gs_go f_244_65 rfl
theorem f_244_66 : ft 244 66 = some (207, .iadd, []) := rfl
theorem s_244_66 {d : Nat} {σ : xS} {st : List Value} {Q : xR → xS → Prop} {l0 l1 l2 l3 l4 l5 l6 l7 l8 : Option Value} {x y : Int32} : G d 244 66 [l0, l1, l2, l3, l4, l5, l6, l7, l8] (.int y :: .int x :: st) σ Q ↔ G d 244 67 [l0, l1, l2, l3, l4, l5, l6, l7, l8] (.int (x + y) :: st) σ Q := gs_go f_244_66 rfl
theorem f_244_67 : ft 244 67 = some (208, .iaload, []) := rfl
theorem s_244_67 {d : Nat} {t : yT} {st : List Value} {Q : xR → xS → Prop} {l0 l1 l2 l3 l4 l5 l6 l7 l8 : Option Value} {a : Nat} {x : Int32} (ha : yA 0 a) : G d 244 67 [l0, l1, l2, l3, l4, l5, l6, l7, l8] (.int x :: .ref a :: st) (yemb t) Q ↔ yix x (yn a) ∧ G d 244 68 [l0, l1, l2, l3, l4, l5, l6, l7, l8] (.int (t.A a x.toNatClampNeg) :: st) (yemb t) Q := gs_iald f_244_67 ha
theorem f_244_68 : ft 244 68 = some (209, .aload_n 0, []) := rfl
theorem s_244_68 {d : Nat} {σ : xS} {st : List Value} {Q : xR → xS → Prop} {l1 l2 l3 l4 l5 l6 l7 l8 : Option Value} {x : Nat} : G d 244 68 [some (.ref x), l1, l2, l3, l4, l5, l6, l7, l8] st σ Q ↔ G d 244 69 [some (.ref x), l1, l2, l3, l4, l5, l6, l7, l8] (.ref x :: st) σ Q := gs_go f_244_68 rfl
theorem f_244_69 : ft 244 69 = some (210, .iload 4, []) := rfl
theorem s_244_69 {d : Nat} {σ : xS} {st : List Value} {Q : xR → xS → Prop} {l0 l1 l2 l3 l5 l6 l7 l8 : Option Value} {x : Int32} : G d 244 69 [l0, l1, l2, l3, some (.int x), l5, l6, l7, l8] st σ Q ↔ G d 244 70 [l0, l1, l2, l3, some (.int x), l5, l6, l7, l8] (.int x :: st) σ Q := gs_go f_244_69 rfl
theorem f_244_70 : ft 244 70 = some (212, .iconst 4, []) := rfl
theorem s_244_70 {d : Nat} {σ : xS} {st : List Value} {Q : xR → xS → Prop} {l0 l1 l2 l3 l4 l5 l6 l7 l8 : Option Value} : G d 244 70 [l0, l1, l2, l3, l4, l5, l6, l7, l8] st σ Q ↔ G d 244 71 [l0, l1, l2, l3, l4, l5, l6, l7, l8] (.int (4) :: st) σ Q := gs_go f_244_70 rfl
theorem f_244_71 : ft 244 71 = some (213, .iadd, []) := rfl
theorem s_244_71 {d : Nat} {σ : xS} {st : List Value} {Q : xR → xS → Prop} {l0 l1 l2 l3 l4 l5 l6 l7 l8 : Option Value} {x y : Int32} : G d 244 71 [l0, l1, l2, l3, l4, l5, l6, l7, l8] (.int y :: .int x :: st) σ Q ↔ G d 244 72 [l0, l1, l2, l3, l4, l5, l6, l7, l8] (.int (x + y) :: st) σ Q := gs_go f_244_71 rfl
theorem f_244_72 : ft 244 72 = some (214, .iaload, []) := rfl
theorem s_244_72 {d : Nat} {t : yT} {st : List Value} {Q : xR → xS → Prop} {l0 l1 l2 l3 l4 l5 l6 l7 l8 : Option Value} {a : Nat} {x : Int32} (ha : yA 0 a) : G d 244 72 [l0, l1, l2, l3, l4, l5, l6, l7, l8] (.int x :: .ref a :: st) (yemb t) Q ↔ yix x (yn a) ∧ G d 244 73 [l0, l1, l2, l3, l4, l5, l6, l7, l8] (.int (t.A a x.toNatClampNeg) :: st) (yemb t) Q := gs_iald f_244_72 ha
theorem f_244_73 : ft 244 73 = some (215, .aload_n 0, []) := rfl
theorem s_244_73 {d : Nat} {σ : xS} {st : List Value} {Q : xR → xS → Prop} {l1 l2 l3 l4 l5 l6 l7 l8 : Option Value} {x : Nat} : G d 244 73 [some (.ref x), l1, l2, l3, l4, l5, l6, l7, l8] st σ Q ↔ G d 244 74 [some (.ref x), l1, l2, l3, l4, l5, l6, l7, l8] (.ref x :: st) σ Q := gs_go f_244_73 rfl
theorem f_244_74 : ft 244 74 = some (216, .iload 4, []) := rfl
theorem s_244_74 {d : Nat} {σ : xS} {st : List Value} {Q : xR → xS → Prop} {l0 l1 l2 l3 l5 l6 l7 l8 : Option Value} {x : Int32} : G d 244 74 [l0, l1, l2, l3, some (.int x), l5, l6, l7, l8] st σ Q ↔ G d 244 75 [l0, l1, l2, l3, some (.int x), l5, l6, l7, l8] (.int x :: st) σ Q := gs_go f_244_74 rfl
theorem f_244_75 : ft 244 75 = some (218, .iconst 5, []) := rfl
theorem s_244_75 {d : Nat} {σ : xS} {st : List Value} {Q : xR → xS → Prop} {l0 l1 l2 l3 l4 l5 l6 l7 l8 : Option Value} : G d 244 75 [l0, l1, l2, l3, l4, l5, l6, l7, l8] st σ Q ↔ G d 244 76 [l0, l1, l2, l3, l4, l5, l6, l7, l8] (.int (5) :: st) σ Q := gs_go f_244_75 rfl
theorem f_244_76 : ft 244 76 = some (219, .iadd, []) := rfl
theorem s_244_76 {d : Nat} {σ : xS} {st : List Value} {Q : xR → xS → Prop} {l0 l1 l2 l3 l4 l5 l6 l7 l8 : Option Value} {x y : Int32} : G d 244 76 [l0, l1, l2, l3, l4, l5, l6, l7, l8] (.int y :: .int x :: st) σ Q ↔ G d 244 77 [l0, l1, l2, l3, l4, l5, l6, l7, l8] (.int (x + y) :: st) σ Q := gs_go f_244_76 rfl
theorem f_244_77 : ft 244 77 = some (220, .iaload, []) := rfl
theorem s_244_77 {d : Nat} {t : yT} {st : List Value} {Q : xR → xS → Prop} {l0 l1 l2 l3 l4 l5 l6 l7 l8 : Option Value} {a : Nat} {x : Int32} (ha : yA 0 a) : G d 244 77 [l0, l1, l2, l3, l4, l5, l6, l7, l8] (.int x :: .ref a :: st) (yemb t) Q ↔ yix x (yn a) ∧ G d 244 78 [l0, l1, l2, l3, l4, l5, l6, l7, l8] (.int (t.A a x.toNatClampNeg) :: st) (yemb t) Q := gs_iald f_244_77 ha
theorem f_244_78 : ft 244 78 = some (221, .invokevirtual 84, [129, 6, 0, 1281]) := rfl
theorem s_244_78 {d : Nat} {t : yT} {st : List Value} {Q : xR → xS → Prop} {l0 l1 l2 l3 l4 l5 l6 l7 l8 : Option Value} {a0 : Nat} {a1 : Int32} {a2 : Int32} {a3 : Int32} {a4 : Int32} {a5 : Int32} (ho : yisO 8 a0) : G (d + 1) 244 78 [l0, l1, l2, l3, l4, l5, l6, l7, l8] (.int a5 :: .int a4 :: .int a3 :: .int a2 :: .int a1 :: .ref a0 :: st) (yemb t) Q ↔ xcat st ≤ 8 ∧ Cl d 129 [.ref a0, .int a1, .int a2, .int a3, .int a4, .int a5] (yemb t) (Gk (d + 1) 244 78 [l0, l1, l2, l3, l4, l5, l6, l7, l8] st Q) := gs_call f_244_78 ((xinv_call (i := 78) (n := 1281) (ls := [l0, l1, l2, l3, l4, l5, l6, l7, l8]) (kind := 0) (σ := yemb t) (by decide)).trans (xcall_vi [.int a5, .int a4, .int a3, .int a2, .int a1, .ref a0] rfl rfl (show (6 : Nat) ≤ 8 by decide) rfl ho))
theorem f_244_79 : ft 244 79 = some (224, .if_icmp .eq 1262, [879]) := rfl
theorem s_244_79 {d : Nat} {σ : xS} {st : List Value} {Q : xR → xS → Prop} {l0 l1 l2 l3 l4 l5 l6 l7 l8 : Option Value} {x y : Int32} : G d 244 79 [l0, l1, l2, l3, l4, l5, l6, l7, l8] (.int y :: .int x :: st) σ Q ↔ if x = y then G d 244 879 [l0, l1, l2, l3, l4, l5, l6, l7, l8] st σ Q else G d 244 80 [l0, l1, l2, l3, l4, l5, l6, l7, l8] st σ Q := gs_if f_244_79 rfl
theorem f_244_80 : ft 244 80 = some (227, .iconst 0, []) := rfl
theorem s_244_80 {d : Nat} {σ : xS} {st : List Value} {Q : xR → xS → Prop} {l0 l1 l2 l3 l4 l5 l6 l7 l8 : Option Value} : G d 244 80 [l0, l1, l2, l3, l4, l5, l6, l7, l8] st σ Q ↔ G d 244 81 [l0, l1, l2, l3, l4, l5, l6, l7, l8] (.int (0) :: st) σ Q := gs_go f_244_80 rfl
theorem f_244_81 : ft 244 81 = some (228, .ireturn, []) := rfl
theorem s_244_81 {d : Nat} {σ : xS} {ls : xL} {Q : xR → xS → Prop} {x : Int32} : G d 244 81 ls [.int x] σ Q ↔ ybo x ∧ Q (.inl (some (.int x))) σ := gs_retb f_244_81 rfl
theorem f_244_82 : ft 244 82 = some (229, .aload_n 1, []) := rfl
theorem s_244_82 {d : Nat} {σ : xS} {st : List Value} {Q : xR → xS → Prop} {l0 l2 l3 l4 l5 l6 l7 l8 : Option Value} {x : Nat} : G d 244 82 [l0, some (.ref x), l2, l3, l4, l5, l6, l7, l8] st σ Q ↔ G d 244 83 [l0, some (.ref x), l2, l3, l4, l5, l6, l7, l8] (.ref x :: st) σ Q := gs_go f_244_82 rfl
theorem f_244_83 : ft 244 83 = some (230, .aload_n 0, []) := rfl
theorem s_244_83 {d : Nat} {σ : xS} {st : List Value} {Q : xR → xS → Prop} {l1 l2 l3 l4 l5 l6 l7 l8 : Option Value} {x : Nat} : G d 244 83 [some (.ref x), l1, l2, l3, l4, l5, l6, l7, l8] st σ Q ↔ G d 244 84 [some (.ref x), l1, l2, l3, l4, l5, l6, l7, l8] (.ref x :: st) σ Q := gs_go f_244_83 rfl
theorem f_244_84 : ft 244 84 = some (231, .iload 4, []) := rfl
theorem s_244_84 {d : Nat} {σ : xS} {st : List Value} {Q : xR → xS → Prop} {l0 l1 l2 l3 l5 l6 l7 l8 : Option Value} {x : Int32} : G d 244 84 [l0, l1, l2, l3, some (.int x), l5, l6, l7, l8] st σ Q ↔ G d 244 85 [l0, l1, l2, l3, some (.int x), l5, l6, l7, l8] (.int x :: st) σ Q := gs_go f_244_84 rfl
theorem f_244_85 : ft 244 85 = some (233, .iconst 1, []) := rfl
theorem s_244_85 {d : Nat} {σ : xS} {st : List Value} {Q : xR → xS → Prop} {l0 l1 l2 l3 l4 l5 l6 l7 l8 : Option Value} : G d 244 85 [l0, l1, l2, l3, l4, l5, l6, l7, l8] st σ Q ↔ G d 244 86 [l0, l1, l2, l3, l4, l5, l6, l7, l8] (.int (1) :: st) σ Q := gs_go f_244_85 rfl
theorem f_244_86 : ft 244 86 = some (234, .iadd, []) := rfl
theorem s_244_86 {d : Nat} {σ : xS} {st : List Value} {Q : xR → xS → Prop} {l0 l1 l2 l3 l4 l5 l6 l7 l8 : Option Value} {x y : Int32} : G d 244 86 [l0, l1, l2, l3, l4, l5, l6, l7, l8] (.int y :: .int x :: st) σ Q ↔ G d 244 87 [l0, l1, l2, l3, l4, l5, l6, l7, l8] (.int (x + y) :: st) σ Q := gs_go f_244_86 rfl
theorem f_244_87 : ft 244 87 = some (235, .iaload, []) := rfl
theorem s_244_87 {d : Nat} {t : yT} {st : List Value} {Q : xR → xS → Prop} {l0 l1 l2 l3 l4 l5 l6 l7 l8 : Option Value} {a : Nat} {x : Int32} (ha : yA 0 a) : G d 244 87 [l0, l1, l2, l3, l4, l5, l6, l7, l8] (.int x :: .ref a :: st) (yemb t) Q ↔ yix x (yn a) ∧ G d 244 88 [l0, l1, l2, l3, l4, l5, l6, l7, l8] (.int (t.A a x.toNatClampNeg) :: st) (yemb t) Q := gs_iald f_244_87 ha
theorem f_244_88 : ft 244 88 = some (236, .aload_n 3, []) := rfl
theorem s_244_88 {d : Nat} {σ : xS} {st : List Value} {Q : xR → xS → Prop} {l0 l1 l2 l4 l5 l6 l7 l8 : Option Value} {x : Nat} : G d 244 88 [l0, l1, l2, some (.ref x), l4, l5, l6, l7, l8] st σ Q ↔ G d 244 89 [l0, l1, l2, some (.ref x), l4, l5, l6, l7, l8] (.ref x :: st) σ Q := gs_go f_244_88 rfl
theorem f_244_89 : ft 244 89 = some (237, .invokestatic 85, [226, 3, 6, 651]) := rfl
theorem s_244_89 {d : Nat} {σ : xS} {st : List Value} {Q : xR → xS → Prop} {l0 l1 l2 l3 l4 l5 l6 l7 l8 : Option Value} {a0 : Nat} {a1 : Int32} {a2 : Nat} : G (d + 1) 244 89 [l0, l1, l2, l3, l4, l5, l6, l7, l8] (.ref a2 :: .int a1 :: .ref a0 :: st) σ Q ↔ xcat st ≤ 8 ∧ Cl d 226 [.ref a0, .int a1, .ref a2] σ (Gk (d + 1) 244 89 [l0, l1, l2, l3, l4, l5, l6, l7, l8] st Q) := gs_call f_244_89 ((xinv_call (i := 89) (n := 651) (ls := [l0, l1, l2, l3, l4, l5, l6, l7, l8]) (kind := 6) (σ := σ) (by decide)).trans (xcall_st [.ref a2, .int a1, .ref a0] rfl (by decide) (show (3 : Nat) ≤ 4 by decide)))
theorem f_244_90 : ft 244 90 = some (240, .istore 5, []) := rfl
theorem s_244_90 {d : Nat} {σ : xS} {st : List Value} {Q : xR → xS → Prop} {l0 l1 l2 l3 l4 l5 l6 l7 l8 : Option Value} {x : Int32} : G d 244 90 [l0, l1, l2, l3, l4, l5, l6, l7, l8] (.int x :: st) σ Q ↔ G d 244 91 [l0, l1, l2, l3, ykl l4, some (.int x), l6, l7, l8] st σ Q := by
  cases l4 with
  | none => exact gs_go f_244_90 rfl
  | some v => cases v <;> exact gs_go f_244_90 rfl
theorem f_244_91 : ft 244 91 = some (242, .aload_n 2, []) := rfl
theorem s_244_91 {d : Nat} {σ : xS} {st : List Value} {Q : xR → xS → Prop} {l0 l1 l3 l4 l5 l6 l7 l8 : Option Value} {x : Nat} : G d 244 91 [l0, l1, some (.ref x), l3, l4, l5, l6, l7, l8] st σ Q ↔ G d 244 92 [l0, l1, some (.ref x), l3, l4, l5, l6, l7, l8] (.ref x :: st) σ Q := gs_go f_244_91 rfl
theorem f_244_92 : ft 244 92 = some (243, .aload_n 0, []) := rfl
theorem s_244_92 {d : Nat} {σ : xS} {st : List Value} {Q : xR → xS → Prop} {l1 l2 l3 l4 l5 l6 l7 l8 : Option Value} {x : Nat} : G d 244 92 [some (.ref x), l1, l2, l3, l4, l5, l6, l7, l8] st σ Q ↔ G d 244 93 [some (.ref x), l1, l2, l3, l4, l5, l6, l7, l8] (.ref x :: st) σ Q := gs_go f_244_92 rfl
theorem f_244_93 : ft 244 93 = some (244, .iload 4, []) := rfl
theorem s_244_93 {d : Nat} {σ : xS} {st : List Value} {Q : xR → xS → Prop} {l0 l1 l2 l3 l5 l6 l7 l8 : Option Value} {x : Int32} : G d 244 93 [l0, l1, l2, l3, some (.int x), l5, l6, l7, l8] st σ Q ↔ G d 244 94 [l0, l1, l2, l3, some (.int x), l5, l6, l7, l8] (.int x :: st) σ Q := gs_go f_244_93 rfl
theorem f_244_94 : ft 244 94 = some (246, .iconst 1, []) := rfl
theorem s_244_94 {d : Nat} {σ : xS} {st : List Value} {Q : xR → xS → Prop} {l0 l1 l2 l3 l4 l5 l6 l7 l8 : Option Value} : G d 244 94 [l0, l1, l2, l3, l4, l5, l6, l7, l8] st σ Q ↔ G d 244 95 [l0, l1, l2, l3, l4, l5, l6, l7, l8] (.int (1) :: st) σ Q := gs_go f_244_94 rfl
theorem f_244_95 : ft 244 95 = some (247, .iadd, []) := rfl
theorem s_244_95 {d : Nat} {σ : xS} {st : List Value} {Q : xR → xS → Prop} {l0 l1 l2 l3 l4 l5 l6 l7 l8 : Option Value} {x y : Int32} : G d 244 95 [l0, l1, l2, l3, l4, l5, l6, l7, l8] (.int y :: .int x :: st) σ Q ↔ G d 244 96 [l0, l1, l2, l3, l4, l5, l6, l7, l8] (.int (x + y) :: st) σ Q := gs_go f_244_95 rfl
theorem f_244_96 : ft 244 96 = some (248, .iaload, []) := rfl
theorem s_244_96 {d : Nat} {t : yT} {st : List Value} {Q : xR → xS → Prop} {l0 l1 l2 l3 l4 l5 l6 l7 l8 : Option Value} {a : Nat} {x : Int32} (ha : yA 0 a) : G d 244 96 [l0, l1, l2, l3, l4, l5, l6, l7, l8] (.int x :: .ref a :: st) (yemb t) Q ↔ yix x (yn a) ∧ G d 244 97 [l0, l1, l2, l3, l4, l5, l6, l7, l8] (.int (t.A a x.toNatClampNeg) :: st) (yemb t) Q := gs_iald f_244_96 ha
theorem f_244_97 : ft 244 97 = some (249, .invokevirtual 90, [150, 2, 0, 1285]) := rfl
theorem s_244_97 {d : Nat} {t : yT} {st : List Value} {Q : xR → xS → Prop} {l0 l1 l2 l3 l4 l5 l6 l7 l8 : Option Value} {a0 : Nat} {a1 : Int32} (ho : yisO 8 a0) : G (d + 1) 244 97 [l0, l1, l2, l3, l4, l5, l6, l7, l8] (.int a1 :: .ref a0 :: st) (yemb t) Q ↔ xcat st ≤ 8 ∧ Cl d 150 [.ref a0, .int a1] (yemb t) (Gk (d + 1) 244 97 [l0, l1, l2, l3, l4, l5, l6, l7, l8] st Q) := gs_call f_244_97 ((xinv_call (i := 97) (n := 1285) (ls := [l0, l1, l2, l3, l4, l5, l6, l7, l8]) (kind := 0) (σ := yemb t) (by decide)).trans (xcall_vi [.int a1, .ref a0] rfl rfl (show (2 : Nat) ≤ 4 by decide) rfl ho))
theorem f_244_98 : ft 244 98 = some (252, .istore 6, []) := rfl
theorem s_244_98 {d : Nat} {σ : xS} {st : List Value} {Q : xR → xS → Prop} {l0 l1 l2 l3 l4 l5 l6 l7 l8 : Option Value} {x : Int32} : G d 244 98 [l0, l1, l2, l3, l4, l5, l6, l7, l8] (.int x :: st) σ Q ↔ G d 244 99 [l0, l1, l2, l3, l4, ykl l5, some (.int x), l7, l8] st σ Q := by
  cases l5 with
  | none => exact gs_go f_244_98 rfl
  | some v => cases v <;> exact gs_go f_244_98 rfl
theorem f_244_99 : ft 244 99 = some (254, .aload_n 2, []) := rfl
theorem s_244_99 {d : Nat} {σ : xS} {st : List Value} {Q : xR → xS → Prop} {l0 l1 l3 l4 l5 l6 l7 l8 : Option Value} {x : Nat} : G d 244 99 [l0, l1, some (.ref x), l3, l4, l5, l6, l7, l8] st σ Q ↔ G d 244 100 [l0, l1, some (.ref x), l3, l4, l5, l6, l7, l8] (.ref x :: st) σ Q := gs_go f_244_99 rfl
theorem f_244_100 : ft 244 100 = some (255, .invokevirtual 91, [123, 1, 0, 1277]) := rfl
theorem s_244_100 {d : Nat} {t : yT} {st : List Value} {Q : xR → xS → Prop} {l0 l1 l2 l3 l4 l5 l6 l7 l8 : Option Value} {a0 : Nat} (ho : yisO 8 a0) : G (d + 1) 244 100 [l0, l1, l2, l3, l4, l5, l6, l7, l8] (.ref a0 :: st) (yemb t) Q ↔ xcat st ≤ 8 ∧ Cl d 123 [.ref a0] (yemb t) (Gk (d + 1) 244 100 [l0, l1, l2, l3, l4, l5, l6, l7, l8] st Q) := gs_call f_244_100 ((xinv_call (i := 100) (n := 1277) (ls := [l0, l1, l2, l3, l4, l5, l6, l7, l8]) (kind := 0) (σ := yemb t) (by decide)).trans (xcall_vi [.ref a0] rfl rfl (show (1 : Nat) ≤ 1 by decide) rfl ho))
theorem f_244_101 : ft 244 101 = some (258, .iload 5, []) := rfl
theorem s_244_101 {d : Nat} {σ : xS} {st : List Value} {Q : xR → xS → Prop} {l0 l1 l2 l3 l4 l6 l7 l8 : Option Value} {x : Int32} : G d 244 101 [l0, l1, l2, l3, l4, some (.int x), l6, l7, l8] st σ Q ↔ G d 244 102 [l0, l1, l2, l3, l4, some (.int x), l6, l7, l8] (.int x :: st) σ Q := gs_go f_244_101 rfl
theorem f_244_102 : ft 244 102 = some (260, .if_icmp .eq 5, [105]) := rfl
theorem s_244_102 {d : Nat} {σ : xS} {st : List Value} {Q : xR → xS → Prop} {l0 l1 l2 l3 l4 l5 l6 l7 l8 : Option Value} {x y : Int32} : G d 244 102 [l0, l1, l2, l3, l4, l5, l6, l7, l8] (.int y :: .int x :: st) σ Q ↔ if x = y then G d 244 105 [l0, l1, l2, l3, l4, l5, l6, l7, l8] st σ Q else G d 244 103 [l0, l1, l2, l3, l4, l5, l6, l7, l8] st σ Q := gs_if f_244_102 rfl
theorem f_244_103 : ft 244 103 = some (263, .iconst 0, []) := rfl
theorem s_244_103 {d : Nat} {σ : xS} {st : List Value} {Q : xR → xS → Prop} {l0 l1 l2 l3 l4 l5 l6 l7 l8 : Option Value} : G d 244 103 [l0, l1, l2, l3, l4, l5, l6, l7, l8] st σ Q ↔ G d 244 104 [l0, l1, l2, l3, l4, l5, l6, l7, l8] (.int (0) :: st) σ Q := gs_go f_244_103 rfl
theorem f_244_104 : ft 244 104 = some (264, .ireturn, []) := rfl
theorem s_244_104 {d : Nat} {σ : xS} {ls : xL} {Q : xR → xS → Prop} {x : Int32} : G d 244 104 ls [.int x] σ Q ↔ ybo x ∧ Q (.inl (some (.int x))) σ := gs_retb f_244_104 rfl
theorem f_244_105 : ft 244 105 = some (265, .iload 5, []) := rfl
theorem s_244_105 {d : Nat} {σ : xS} {st : List Value} {Q : xR → xS → Prop} {l0 l1 l2 l3 l4 l6 l7 l8 : Option Value} {x : Int32} : G d 244 105 [l0, l1, l2, l3, l4, some (.int x), l6, l7, l8] st σ Q ↔ G d 244 106 [l0, l1, l2, l3, l4, some (.int x), l6, l7, l8] (.int x :: st) σ Q := gs_go f_244_105 rfl
theorem f_244_106 : ft 244 106 = some (267, .ifCond .ne 15, [116]) := rfl
theorem s_244_106 {d : Nat} {σ : xS} {st : List Value} {Q : xR → xS → Prop} {l0 l1 l2 l3 l4 l5 l6 l7 l8 : Option Value} {x : Int32} : G d 244 106 [l0, l1, l2, l3, l4, l5, l6, l7, l8] (.int x :: st) σ Q ↔ if x ≠ 0 then G d 244 116 [l0, l1, l2, l3, l4, l5, l6, l7, l8] st σ Q else G d 244 107 [l0, l1, l2, l3, l4, l5, l6, l7, l8] st σ Q := gs_if f_244_106 rfl
theorem f_244_107 : ft 244 107 = some (270, .aload_n 3, []) := rfl
theorem s_244_107 {d : Nat} {σ : xS} {st : List Value} {Q : xR → xS → Prop} {l0 l1 l2 l4 l5 l6 l7 l8 : Option Value} {x : Nat} : G d 244 107 [l0, l1, l2, some (.ref x), l4, l5, l6, l7, l8] st σ Q ↔ G d 244 108 [l0, l1, l2, some (.ref x), l4, l5, l6, l7, l8] (.ref x :: st) σ Q := gs_go f_244_107 rfl
theorem f_244_108 : ft 244 108 = some (271, .iconst 0, []) := rfl
theorem s_244_108 {d : Nat} {σ : xS} {st : List Value} {Q : xR → xS → Prop} {l0 l1 l2 l3 l4 l5 l6 l7 l8 : Option Value} : G d 244 108 [l0, l1, l2, l3, l4, l5, l6, l7, l8] st σ Q ↔ G d 244 109 [l0, l1, l2, l3, l4, l5, l6, l7, l8] (.int (0) :: st) σ Q := gs_go f_244_108 rfl
theorem f_244_109 : ft 244 109 = some (272, .laload, []) := rfl
theorem s_244_109 {d : Nat} {t : yT} {st : List Value} {Q : xR → xS → Prop} {l0 l1 l2 l3 l4 l5 l6 l7 l8 : Option Value} {a : Nat} {x : Int32} (ha : yLA a) : G d 244 109 [l0, l1, l2, l3, l4, l5, l6, l7, l8] (.int x :: .ref a :: st) (yemb t) Q ↔ yix x (yn a) ∧ G d 244 110 [l0, l1, l2, l3, l4, l5, l6, l7, l8] (.long (t.L a x.toNatClampNeg) :: st) (yemb t) Q := gs_lald f_244_109 ha
theorem f_244_110 : ft 244 110 = some (273, .iload 6, []) := rfl
theorem s_244_110 {d : Nat} {σ : xS} {st : List Value} {Q : xR → xS → Prop} {l0 l1 l2 l3 l4 l5 l7 l8 : Option Value} {x : Int32} : G d 244 110 [l0, l1, l2, l3, l4, l5, some (.int x), l7, l8] st σ Q ↔ G d 244 111 [l0, l1, l2, l3, l4, l5, some (.int x), l7, l8] (.int x :: st) σ Q := gs_go f_244_110 rfl
theorem f_244_111 : ft 244 111 = some (275, .i2l, []) := rfl
theorem s_244_111 {d : Nat} {σ : xS} {st : List Value} {Q : xR → xS → Prop} {l0 l1 l2 l3 l4 l5 l6 l7 l8 : Option Value} {x : Int32} : G d 244 111 [l0, l1, l2, l3, l4, l5, l6, l7, l8] (.int x :: st) σ Q ↔ G d 244 112 [l0, l1, l2, l3, l4, l5, l6, l7, l8] (.long x.toInt64 :: st) σ Q := gs_go f_244_111 rfl
theorem f_244_112 : ft 244 112 = some (276, .lcmp, []) := rfl
theorem s_244_112 {d : Nat} {σ : xS} {st : List Value} {Q : xR → xS → Prop} {l0 l1 l2 l3 l4 l5 l6 l7 l8 : Option Value} {x y : Int64} : G d 244 112 [l0, l1, l2, l3, l4, l5, l6, l7, l8] (.long y :: .long x :: st) σ Q ↔ G d 244 113 [l0, l1, l2, l3, l4, l5, l6, l7, l8] (.int (lg_cmp x y) :: st) σ Q := gs_go f_244_112 rfl
theorem f_244_113 : ft 244 113 = some (277, .ifCond .eq 5, [116]) := rfl
theorem s_244_113 {d : Nat} {σ : xS} {st : List Value} {Q : xR → xS → Prop} {l0 l1 l2 l3 l4 l5 l6 l7 l8 : Option Value} {x : Int32} : G d 244 113 [l0, l1, l2, l3, l4, l5, l6, l7, l8] (.int x :: st) σ Q ↔ if x = 0 then G d 244 116 [l0, l1, l2, l3, l4, l5, l6, l7, l8] st σ Q else G d 244 114 [l0, l1, l2, l3, l4, l5, l6, l7, l8] st σ Q := gs_if f_244_113 rfl
theorem f_244_114 : ft 244 114 = some (280, .iconst 0, []) := rfl
theorem s_244_114 {d : Nat} {σ : xS} {st : List Value} {Q : xR → xS → Prop} {l0 l1 l2 l3 l4 l5 l6 l7 l8 : Option Value} : G d 244 114 [l0, l1, l2, l3, l4, l5, l6, l7, l8] st σ Q ↔ G d 244 115 [l0, l1, l2, l3, l4, l5, l6, l7, l8] (.int (0) :: st) σ Q := gs_go f_244_114 rfl
theorem f_244_115 : ft 244 115 = some (281, .ireturn, []) := rfl
theorem s_244_115 {d : Nat} {σ : xS} {ls : xL} {Q : xR → xS → Prop} {x : Int32} : G d 244 115 ls [.int x] σ Q ↔ ybo x ∧ Q (.inl (some (.int x))) σ := gs_retb f_244_115 rfl
theorem f_244_116 : ft 244 116 = some (282, .goto 1204, [879]) := rfl
theorem s_244_116 {d : Nat} {σ : xS} {st : List Value} {Q : xR → xS → Prop} {l0 l1 l2 l3 l4 l5 l6 l7 l8 : Option Value} : G d 244 116 [l0, l1, l2, l3, l4, l5, l6, l7, l8] st σ Q ↔ G d 244 879 [l0, l1, l2, l3, l4, l5, l6, l7, l8] st σ Q := gs_go f_244_116 rfl
theorem f_244_117 : ft 244 117 = some (285, .aload_n 1, []) := rfl
theorem s_244_117 {d : Nat} {σ : xS} {st : List Value} {Q : xR → xS → Prop} {l0 l2 l3 l4 l5 l6 l7 l8 : Option Value} {x : Nat} : G d 244 117 [l0, some (.ref x), l2, l3, l4, l5, l6, l7, l8] st σ Q ↔ G d 244 118 [l0, some (.ref x), l2, l3, l4, l5, l6, l7, l8] (.ref x :: st) σ Q := gs_go f_244_117 rfl
theorem f_244_118 : ft 244 118 = some (286, .aload_n 0, []) := rfl
theorem s_244_118 {d : Nat} {σ : xS} {st : List Value} {Q : xR → xS → Prop} {l1 l2 l3 l4 l5 l6 l7 l8 : Option Value} {x : Nat} : G d 244 118 [some (.ref x), l1, l2, l3, l4, l5, l6, l7, l8] st σ Q ↔ G d 244 119 [some (.ref x), l1, l2, l3, l4, l5, l6, l7, l8] (.ref x :: st) σ Q := gs_go f_244_118 rfl
theorem f_244_119 : ft 244 119 = some (287, .iload 4, []) := rfl
theorem s_244_119 {d : Nat} {σ : xS} {st : List Value} {Q : xR → xS → Prop} {l0 l1 l2 l3 l5 l6 l7 l8 : Option Value} {x : Int32} : G d 244 119 [l0, l1, l2, l3, some (.int x), l5, l6, l7, l8] st σ Q ↔ G d 244 120 [l0, l1, l2, l3, some (.int x), l5, l6, l7, l8] (.int x :: st) σ Q := gs_go f_244_119 rfl
theorem f_244_120 : ft 244 120 = some (289, .iconst 1, []) := rfl
theorem s_244_120 {d : Nat} {σ : xS} {st : List Value} {Q : xR → xS → Prop} {l0 l1 l2 l3 l4 l5 l6 l7 l8 : Option Value} : G d 244 120 [l0, l1, l2, l3, l4, l5, l6, l7, l8] st σ Q ↔ G d 244 121 [l0, l1, l2, l3, l4, l5, l6, l7, l8] (.int (1) :: st) σ Q := gs_go f_244_120 rfl
theorem f_244_121 : ft 244 121 = some (290, .iadd, []) := rfl
theorem s_244_121 {d : Nat} {σ : xS} {st : List Value} {Q : xR → xS → Prop} {l0 l1 l2 l3 l4 l5 l6 l7 l8 : Option Value} {x y : Int32} : G d 244 121 [l0, l1, l2, l3, l4, l5, l6, l7, l8] (.int y :: .int x :: st) σ Q ↔ G d 244 122 [l0, l1, l2, l3, l4, l5, l6, l7, l8] (.int (x + y) :: st) σ Q := gs_go f_244_121 rfl
theorem f_244_122 : ft 244 122 = some (291, .iaload, []) := rfl
theorem s_244_122 {d : Nat} {t : yT} {st : List Value} {Q : xR → xS → Prop} {l0 l1 l2 l3 l4 l5 l6 l7 l8 : Option Value} {a : Nat} {x : Int32} (ha : yA 0 a) : G d 244 122 [l0, l1, l2, l3, l4, l5, l6, l7, l8] (.int x :: .ref a :: st) (yemb t) Q ↔ yix x (yn a) ∧ G d 244 123 [l0, l1, l2, l3, l4, l5, l6, l7, l8] (.int (t.A a x.toNatClampNeg) :: st) (yemb t) Q := gs_iald f_244_122 ha
theorem f_244_123 : ft 244 123 = some (292, .aload_n 3, []) := rfl
theorem s_244_123 {d : Nat} {σ : xS} {st : List Value} {Q : xR → xS → Prop} {l0 l1 l2 l4 l5 l6 l7 l8 : Option Value} {x : Nat} : G d 244 123 [l0, l1, l2, some (.ref x), l4, l5, l6, l7, l8] st σ Q ↔ G d 244 124 [l0, l1, l2, some (.ref x), l4, l5, l6, l7, l8] (.ref x :: st) σ Q := gs_go f_244_123 rfl
theorem f_244_124 : ft 244 124 = some (293, .invokestatic 95, [227, 3, 6, 891]) := rfl
theorem s_244_124 {d : Nat} {σ : xS} {st : List Value} {Q : xR → xS → Prop} {l0 l1 l2 l3 l4 l5 l6 l7 l8 : Option Value} {a0 : Nat} {a1 : Int32} {a2 : Nat} : G (d + 1) 244 124 [l0, l1, l2, l3, l4, l5, l6, l7, l8] (.ref a2 :: .int a1 :: .ref a0 :: st) σ Q ↔ xcat st ≤ 8 ∧ Cl d 227 [.ref a0, .int a1, .ref a2] σ (Gk (d + 1) 244 124 [l0, l1, l2, l3, l4, l5, l6, l7, l8] st Q) := gs_call f_244_124 ((xinv_call (i := 124) (n := 891) (ls := [l0, l1, l2, l3, l4, l5, l6, l7, l8]) (kind := 6) (σ := σ) (by decide)).trans (xcall_st [.ref a2, .int a1, .ref a0] rfl (by decide) (show (3 : Nat) ≤ 4 by decide)))
theorem f_244_125 : ft 244 125 = some (296, .istore 5, []) := rfl
theorem s_244_125 {d : Nat} {σ : xS} {st : List Value} {Q : xR → xS → Prop} {l0 l1 l2 l3 l4 l5 l6 l7 l8 : Option Value} {x : Int32} : G d 244 125 [l0, l1, l2, l3, l4, l5, l6, l7, l8] (.int x :: st) σ Q ↔ G d 244 126 [l0, l1, l2, l3, ykl l4, some (.int x), l6, l7, l8] st σ Q := by
  cases l4 with
  | none => exact gs_go f_244_125 rfl
  | some v => cases v <;> exact gs_go f_244_125 rfl
theorem f_244_126 : ft 244 126 = some (298, .aload_n 2, []) := rfl
theorem s_244_126 {d : Nat} {σ : xS} {st : List Value} {Q : xR → xS → Prop} {l0 l1 l3 l4 l5 l6 l7 l8 : Option Value} {x : Nat} : G d 244 126 [l0, l1, some (.ref x), l3, l4, l5, l6, l7, l8] st σ Q ↔ G d 244 127 [l0, l1, some (.ref x), l3, l4, l5, l6, l7, l8] (.ref x :: st) σ Q := gs_go f_244_126 rfl
theorem f_244_127 : ft 244 127 = some (299, .aload_n 0, []) := rfl
theorem s_244_127 {d : Nat} {σ : xS} {st : List Value} {Q : xR → xS → Prop} {l1 l2 l3 l4 l5 l6 l7 l8 : Option Value} {x : Nat} : G d 244 127 [some (.ref x), l1, l2, l3, l4, l5, l6, l7, l8] st σ Q ↔ G d 244 128 [some (.ref x), l1, l2, l3, l4, l5, l6, l7, l8] (.ref x :: st) σ Q := gs_go f_244_127 rfl
theorem f_244_128 : ft 244 128 = some (300, .iload 4, []) := rfl
theorem s_244_128 {d : Nat} {σ : xS} {st : List Value} {Q : xR → xS → Prop} {l0 l1 l2 l3 l5 l6 l7 l8 : Option Value} {x : Int32} : G d 244 128 [l0, l1, l2, l3, some (.int x), l5, l6, l7, l8] st σ Q ↔ G d 244 129 [l0, l1, l2, l3, some (.int x), l5, l6, l7, l8] (.int x :: st) σ Q := gs_go f_244_128 rfl
theorem f_244_129 : ft 244 129 = some (302, .iconst 1, []) := rfl
theorem s_244_129 {d : Nat} {σ : xS} {st : List Value} {Q : xR → xS → Prop} {l0 l1 l2 l3 l4 l5 l6 l7 l8 : Option Value} : G d 244 129 [l0, l1, l2, l3, l4, l5, l6, l7, l8] st σ Q ↔ G d 244 130 [l0, l1, l2, l3, l4, l5, l6, l7, l8] (.int (1) :: st) σ Q := gs_go f_244_129 rfl
theorem f_244_130 : ft 244 130 = some (303, .iadd, []) := rfl
theorem s_244_130 {d : Nat} {σ : xS} {st : List Value} {Q : xR → xS → Prop} {l0 l1 l2 l3 l4 l5 l6 l7 l8 : Option Value} {x y : Int32} : G d 244 130 [l0, l1, l2, l3, l4, l5, l6, l7, l8] (.int y :: .int x :: st) σ Q ↔ G d 244 131 [l0, l1, l2, l3, l4, l5, l6, l7, l8] (.int (x + y) :: st) σ Q := gs_go f_244_130 rfl
theorem f_244_131 : ft 244 131 = some (304, .iaload, []) := rfl
theorem s_244_131 {d : Nat} {t : yT} {st : List Value} {Q : xR → xS → Prop} {l0 l1 l2 l3 l4 l5 l6 l7 l8 : Option Value} {a : Nat} {x : Int32} (ha : yA 0 a) : G d 244 131 [l0, l1, l2, l3, l4, l5, l6, l7, l8] (.int x :: .ref a :: st) (yemb t) Q ↔ yix x (yn a) ∧ G d 244 132 [l0, l1, l2, l3, l4, l5, l6, l7, l8] (.int (t.A a x.toNatClampNeg) :: st) (yemb t) Q := gs_iald f_244_131 ha
theorem f_244_132 : ft 244 132 = some (305, .invokevirtual 97, [155, 2, 0, 1405]) := rfl
theorem s_244_132 {d : Nat} {t : yT} {st : List Value} {Q : xR → xS → Prop} {l0 l1 l2 l3 l4 l5 l6 l7 l8 : Option Value} {a0 : Nat} {a1 : Int32} (ho : yisO 8 a0) : G (d + 1) 244 132 [l0, l1, l2, l3, l4, l5, l6, l7, l8] (.int a1 :: .ref a0 :: st) (yemb t) Q ↔ xcat st ≤ 8 ∧ Cl d 155 [.ref a0, .int a1] (yemb t) (Gk (d + 1) 244 132 [l0, l1, l2, l3, l4, l5, l6, l7, l8] st Q) := gs_call f_244_132 ((xinv_call (i := 132) (n := 1405) (ls := [l0, l1, l2, l3, l4, l5, l6, l7, l8]) (kind := 0) (σ := yemb t) (by decide)).trans (xcall_vi [.int a1, .ref a0] rfl rfl (show (2 : Nat) ≤ 2 by decide) rfl ho))
theorem f_244_133 : ft 244 133 = some (308, .istore 6, []) := rfl
theorem s_244_133 {d : Nat} {σ : xS} {st : List Value} {Q : xR → xS → Prop} {l0 l1 l2 l3 l4 l5 l6 l7 l8 : Option Value} {x : Int32} : G d 244 133 [l0, l1, l2, l3, l4, l5, l6, l7, l8] (.int x :: st) σ Q ↔ G d 244 134 [l0, l1, l2, l3, l4, ykl l5, some (.int x), l7, l8] st σ Q := by
  cases l5 with
  | none => exact gs_go f_244_133 rfl
  | some v => cases v <;> exact gs_go f_244_133 rfl
theorem f_244_134 : ft 244 134 = some (310, .aload_n 2, []) := rfl
theorem s_244_134 {d : Nat} {σ : xS} {st : List Value} {Q : xR → xS → Prop} {l0 l1 l3 l4 l5 l6 l7 l8 : Option Value} {x : Nat} : G d 244 134 [l0, l1, some (.ref x), l3, l4, l5, l6, l7, l8] st σ Q ↔ G d 244 135 [l0, l1, some (.ref x), l3, l4, l5, l6, l7, l8] (.ref x :: st) σ Q := gs_go f_244_134 rfl
theorem f_244_135 : ft 244 135 = some (311, .invokevirtual 91, [123, 1, 0, 1277]) := rfl
theorem s_244_135 {d : Nat} {t : yT} {st : List Value} {Q : xR → xS → Prop} {l0 l1 l2 l3 l4 l5 l6 l7 l8 : Option Value} {a0 : Nat} (ho : yisO 8 a0) : G (d + 1) 244 135 [l0, l1, l2, l3, l4, l5, l6, l7, l8] (.ref a0 :: st) (yemb t) Q ↔ xcat st ≤ 8 ∧ Cl d 123 [.ref a0] (yemb t) (Gk (d + 1) 244 135 [l0, l1, l2, l3, l4, l5, l6, l7, l8] st Q) := gs_call f_244_135 ((xinv_call (i := 135) (n := 1277) (ls := [l0, l1, l2, l3, l4, l5, l6, l7, l8]) (kind := 0) (σ := yemb t) (by decide)).trans (xcall_vi [.ref a0] rfl rfl (show (1 : Nat) ≤ 1 by decide) rfl ho))
theorem f_244_136 : ft 244 136 = some (314, .iload 5, []) := rfl
theorem s_244_136 {d : Nat} {σ : xS} {st : List Value} {Q : xR → xS → Prop} {l0 l1 l2 l3 l4 l6 l7 l8 : Option Value} {x : Int32} : G d 244 136 [l0, l1, l2, l3, l4, some (.int x), l6, l7, l8] st σ Q ↔ G d 244 137 [l0, l1, l2, l3, l4, some (.int x), l6, l7, l8] (.int x :: st) σ Q := gs_go f_244_136 rfl
theorem f_244_137 : ft 244 137 = some (316, .if_icmp .eq 5, [140]) := rfl
theorem s_244_137 {d : Nat} {σ : xS} {st : List Value} {Q : xR → xS → Prop} {l0 l1 l2 l3 l4 l5 l6 l7 l8 : Option Value} {x y : Int32} : G d 244 137 [l0, l1, l2, l3, l4, l5, l6, l7, l8] (.int y :: .int x :: st) σ Q ↔ if x = y then G d 244 140 [l0, l1, l2, l3, l4, l5, l6, l7, l8] st σ Q else G d 244 138 [l0, l1, l2, l3, l4, l5, l6, l7, l8] st σ Q := gs_if f_244_137 rfl
theorem f_244_138 : ft 244 138 = some (319, .iconst 0, []) := rfl
theorem s_244_138 {d : Nat} {σ : xS} {st : List Value} {Q : xR → xS → Prop} {l0 l1 l2 l3 l4 l5 l6 l7 l8 : Option Value} : G d 244 138 [l0, l1, l2, l3, l4, l5, l6, l7, l8] st σ Q ↔ G d 244 139 [l0, l1, l2, l3, l4, l5, l6, l7, l8] (.int (0) :: st) σ Q := gs_go f_244_138 rfl
theorem f_244_139 : ft 244 139 = some (320, .ireturn, []) := rfl
theorem s_244_139 {d : Nat} {σ : xS} {ls : xL} {Q : xR → xS → Prop} {x : Int32} : G d 244 139 ls [.int x] σ Q ↔ ybo x ∧ Q (.inl (some (.int x))) σ := gs_retb f_244_139 rfl
theorem f_244_140 : ft 244 140 = some (321, .iload 5, []) := rfl
theorem s_244_140 {d : Nat} {σ : xS} {st : List Value} {Q : xR → xS → Prop} {l0 l1 l2 l3 l4 l6 l7 l8 : Option Value} {x : Int32} : G d 244 140 [l0, l1, l2, l3, l4, some (.int x), l6, l7, l8] st σ Q ↔ G d 244 141 [l0, l1, l2, l3, l4, some (.int x), l6, l7, l8] (.int x :: st) σ Q := gs_go f_244_140 rfl
theorem f_244_141 : ft 244 141 = some (323, .ifCond .ne 15, [151]) := rfl
theorem s_244_141 {d : Nat} {σ : xS} {st : List Value} {Q : xR → xS → Prop} {l0 l1 l2 l3 l4 l5 l6 l7 l8 : Option Value} {x : Int32} : G d 244 141 [l0, l1, l2, l3, l4, l5, l6, l7, l8] (.int x :: st) σ Q ↔ if x ≠ 0 then G d 244 151 [l0, l1, l2, l3, l4, l5, l6, l7, l8] st σ Q else G d 244 142 [l0, l1, l2, l3, l4, l5, l6, l7, l8] st σ Q := gs_if f_244_141 rfl
theorem f_244_142 : ft 244 142 = some (326, .aload_n 3, []) := rfl
theorem s_244_142 {d : Nat} {σ : xS} {st : List Value} {Q : xR → xS → Prop} {l0 l1 l2 l4 l5 l6 l7 l8 : Option Value} {x : Nat} : G d 244 142 [l0, l1, l2, some (.ref x), l4, l5, l6, l7, l8] st σ Q ↔ G d 244 143 [l0, l1, l2, some (.ref x), l4, l5, l6, l7, l8] (.ref x :: st) σ Q := gs_go f_244_142 rfl
theorem f_244_143 : ft 244 143 = some (327, .iconst 0, []) := rfl
theorem s_244_143 {d : Nat} {σ : xS} {st : List Value} {Q : xR → xS → Prop} {l0 l1 l2 l3 l4 l5 l6 l7 l8 : Option Value} : G d 244 143 [l0, l1, l2, l3, l4, l5, l6, l7, l8] st σ Q ↔ G d 244 144 [l0, l1, l2, l3, l4, l5, l6, l7, l8] (.int (0) :: st) σ Q := gs_go f_244_143 rfl
theorem f_244_144 : ft 244 144 = some (328, .laload, []) := rfl
theorem s_244_144 {d : Nat} {t : yT} {st : List Value} {Q : xR → xS → Prop} {l0 l1 l2 l3 l4 l5 l6 l7 l8 : Option Value} {a : Nat} {x : Int32} (ha : yLA a) : G d 244 144 [l0, l1, l2, l3, l4, l5, l6, l7, l8] (.int x :: .ref a :: st) (yemb t) Q ↔ yix x (yn a) ∧ G d 244 145 [l0, l1, l2, l3, l4, l5, l6, l7, l8] (.long (t.L a x.toNatClampNeg) :: st) (yemb t) Q := gs_lald f_244_144 ha
theorem f_244_145 : ft 244 145 = some (329, .iload 6, []) := rfl
theorem s_244_145 {d : Nat} {σ : xS} {st : List Value} {Q : xR → xS → Prop} {l0 l1 l2 l3 l4 l5 l7 l8 : Option Value} {x : Int32} : G d 244 145 [l0, l1, l2, l3, l4, l5, some (.int x), l7, l8] st σ Q ↔ G d 244 146 [l0, l1, l2, l3, l4, l5, some (.int x), l7, l8] (.int x :: st) σ Q := gs_go f_244_145 rfl
theorem f_244_146 : ft 244 146 = some (331, .i2l, []) := rfl
theorem s_244_146 {d : Nat} {σ : xS} {st : List Value} {Q : xR → xS → Prop} {l0 l1 l2 l3 l4 l5 l6 l7 l8 : Option Value} {x : Int32} : G d 244 146 [l0, l1, l2, l3, l4, l5, l6, l7, l8] (.int x :: st) σ Q ↔ G d 244 147 [l0, l1, l2, l3, l4, l5, l6, l7, l8] (.long x.toInt64 :: st) σ Q := gs_go f_244_146 rfl
theorem f_244_147 : ft 244 147 = some (332, .lcmp, []) := rfl
theorem s_244_147 {d : Nat} {σ : xS} {st : List Value} {Q : xR → xS → Prop} {l0 l1 l2 l3 l4 l5 l6 l7 l8 : Option Value} {x y : Int64} : G d 244 147 [l0, l1, l2, l3, l4, l5, l6, l7, l8] (.long y :: .long x :: st) σ Q ↔ G d 244 148 [l0, l1, l2, l3, l4, l5, l6, l7, l8] (.int (lg_cmp x y) :: st) σ Q := gs_go f_244_147 rfl
theorem f_244_148 : ft 244 148 = some (333, .ifCond .eq 5, [151]) := rfl
theorem s_244_148 {d : Nat} {σ : xS} {st : List Value} {Q : xR → xS → Prop} {l0 l1 l2 l3 l4 l5 l6 l7 l8 : Option Value} {x : Int32} : G d 244 148 [l0, l1, l2, l3, l4, l5, l6, l7, l8] (.int x :: st) σ Q ↔ if x = 0 then G d 244 151 [l0, l1, l2, l3, l4, l5, l6, l7, l8] st σ Q else G d 244 149 [l0, l1, l2, l3, l4, l5, l6, l7, l8] st σ Q := gs_if f_244_148 rfl
theorem f_244_149 : ft 244 149 = some (336, .iconst 0, []) := rfl
theorem s_244_149 {d : Nat} {σ : xS} {st : List Value} {Q : xR → xS → Prop} {l0 l1 l2 l3 l4 l5 l6 l7 l8 : Option Value} : G d 244 149 [l0, l1, l2, l3, l4, l5, l6, l7, l8] st σ Q ↔ G d 244 150 [l0, l1, l2, l3, l4, l5, l6, l7, l8] (.int (0) :: st) σ Q := gs_go f_244_149 rfl
theorem f_244_150 : ft 244 150 = some (337, .ireturn, []) := rfl
theorem s_244_150 {d : Nat} {σ : xS} {ls : xL} {Q : xR → xS → Prop} {x : Int32} : G d 244 150 ls [.int x] σ Q ↔ ybo x ∧ Q (.inl (some (.int x))) σ := gs_retb f_244_150 rfl
theorem f_244_151 : ft 244 151 = some (338, .goto 1148, [879]) := rfl
theorem s_244_151 {d : Nat} {σ : xS} {st : List Value} {Q : xR → xS → Prop} {l0 l1 l2 l3 l4 l5 l6 l7 l8 : Option Value} : G d 244 151 [l0, l1, l2, l3, l4, l5, l6, l7, l8] st σ Q ↔ G d 244 879 [l0, l1, l2, l3, l4, l5, l6, l7, l8] st σ Q := gs_go f_244_151 rfl
theorem f_244_152 : ft 244 152 = some (341, .aload_n 1, []) := rfl
theorem s_244_152 {d : Nat} {σ : xS} {st : List Value} {Q : xR → xS → Prop} {l0 l2 l3 l4 l5 l6 l7 l8 : Option Value} {x : Nat} : G d 244 152 [l0, some (.ref x), l2, l3, l4, l5, l6, l7, l8] st σ Q ↔ G d 244 153 [l0, some (.ref x), l2, l3, l4, l5, l6, l7, l8] (.ref x :: st) σ Q := gs_go f_244_152 rfl
theorem f_244_153 : ft 244 153 = some (342, .invokevirtual 98, [97, 1, 0, 415]) := rfl
theorem s_244_153 {d : Nat} {t : yT} {st : List Value} {Q : xR → xS → Prop} {l0 l1 l2 l3 l4 l5 l6 l7 l8 : Option Value} {a0 : Nat} (ho : yisO 7 a0) : G (d + 1) 244 153 [l0, l1, l2, l3, l4, l5, l6, l7, l8] (.ref a0 :: st) (yemb t) Q ↔ xcat st ≤ 8 ∧ Cl d 97 [.ref a0] (yemb t) (Gk (d + 1) 244 153 [l0, l1, l2, l3, l4, l5, l6, l7, l8] st Q) := gs_call f_244_153 ((xinv_call (i := 153) (n := 415) (ls := [l0, l1, l2, l3, l4, l5, l6, l7, l8]) (kind := 0) (σ := yemb t) (by decide)).trans (xcall_vi [.ref a0] rfl rfl (show (1 : Nat) ≤ 1 by decide) rfl ho))
theorem f_244_154 : ft 244 154 = some (345, .aload_n 2, []) := rfl
theorem s_244_154 {d : Nat} {σ : xS} {st : List Value} {Q : xR → xS → Prop} {l0 l1 l3 l4 l5 l6 l7 l8 : Option Value} {x : Nat} : G d 244 154 [l0, l1, some (.ref x), l3, l4, l5, l6, l7, l8] st σ Q ↔ G d 244 155 [l0, l1, some (.ref x), l3, l4, l5, l6, l7, l8] (.ref x :: st) σ Q := gs_go f_244_154 rfl
theorem f_244_155 : ft 244 155 = some (346, .invokevirtual 101, [151, 1, 0, 1401]) := rfl
theorem s_244_155 {d : Nat} {t : yT} {st : List Value} {Q : xR → xS → Prop} {l0 l1 l2 l3 l4 l5 l6 l7 l8 : Option Value} {a0 : Nat} (ho : yisO 8 a0) : G (d + 1) 244 155 [l0, l1, l2, l3, l4, l5, l6, l7, l8] (.ref a0 :: st) (yemb t) Q ↔ xcat st ≤ 8 ∧ Cl d 151 [.ref a0] (yemb t) (Gk (d + 1) 244 155 [l0, l1, l2, l3, l4, l5, l6, l7, l8] st Q) := gs_call f_244_155 ((xinv_call (i := 155) (n := 1401) (ls := [l0, l1, l2, l3, l4, l5, l6, l7, l8]) (kind := 0) (σ := yemb t) (by decide)).trans (xcall_vi [.ref a0] rfl rfl (show (1 : Nat) ≤ 1 by decide) rfl ho))
theorem f_244_156 : ft 244 156 = some (349, .if_icmp .eq 1137, [879]) := rfl
theorem s_244_156 {d : Nat} {σ : xS} {st : List Value} {Q : xR → xS → Prop} {l0 l1 l2 l3 l4 l5 l6 l7 l8 : Option Value} {x y : Int32} : G d 244 156 [l0, l1, l2, l3, l4, l5, l6, l7, l8] (.int y :: .int x :: st) σ Q ↔ if x = y then G d 244 879 [l0, l1, l2, l3, l4, l5, l6, l7, l8] st σ Q else G d 244 157 [l0, l1, l2, l3, l4, l5, l6, l7, l8] st σ Q := gs_if f_244_156 rfl
theorem f_244_157 : ft 244 157 = some (352, .iconst 0, []) := rfl
theorem s_244_157 {d : Nat} {σ : xS} {st : List Value} {Q : xR → xS → Prop} {l0 l1 l2 l3 l4 l5 l6 l7 l8 : Option Value} : G d 244 157 [l0, l1, l2, l3, l4, l5, l6, l7, l8] st σ Q ↔ G d 244 158 [l0, l1, l2, l3, l4, l5, l6, l7, l8] (.int (0) :: st) σ Q := gs_go f_244_157 rfl
theorem f_244_158 : ft 244 158 = some (353, .ireturn, []) := rfl
theorem s_244_158 {d : Nat} {σ : xS} {ls : xL} {Q : xR → xS → Prop} {x : Int32} : G d 244 158 ls [.int x] σ Q ↔ ybo x ∧ Q (.inl (some (.int x))) σ := gs_retb f_244_158 rfl
theorem f_244_159 : ft 244 159 = some (354, .aload_n 1, []) := rfl
theorem s_244_159 {d : Nat} {σ : xS} {st : List Value} {Q : xR → xS → Prop} {l0 l2 l3 l4 l5 l6 l7 l8 : Option Value} {x : Nat} : G d 244 159 [l0, some (.ref x), l2, l3, l4, l5, l6, l7, l8] st σ Q ↔ G d 244 160 [l0, some (.ref x), l2, l3, l4, l5, l6, l7, l8] (.ref x :: st) σ Q := gs_go f_244_159 rfl
theorem f_244_160 : ft 244 160 = some (355, .invokevirtual 102, [98, 1, 0, 419]) := rfl
theorem s_244_160 {d : Nat} {t : yT} {st : List Value} {Q : xR → xS → Prop} {l0 l1 l2 l3 l4 l5 l6 l7 l8 : Option Value} {a0 : Nat} (ho : yisO 7 a0) : G (d + 1) 244 160 [l0, l1, l2, l3, l4, l5, l6, l7, l8] (.ref a0 :: st) (yemb t) Q ↔ xcat st ≤ 8 ∧ Cl d 98 [.ref a0] (yemb t) (Gk (d + 1) 244 160 [l0, l1, l2, l3, l4, l5, l6, l7, l8] st Q) := gs_call f_244_160 ((xinv_call (i := 160) (n := 419) (ls := [l0, l1, l2, l3, l4, l5, l6, l7, l8]) (kind := 0) (σ := yemb t) (by decide)).trans (xcall_vi [.ref a0] rfl rfl (show (1 : Nat) ≤ 1 by decide) rfl ho))
theorem f_244_161 : ft 244 161 = some (358, .aload_n 2, []) := rfl
theorem s_244_161 {d : Nat} {σ : xS} {st : List Value} {Q : xR → xS → Prop} {l0 l1 l3 l4 l5 l6 l7 l8 : Option Value} {x : Nat} : G d 244 161 [l0, l1, some (.ref x), l3, l4, l5, l6, l7, l8] st σ Q ↔ G d 244 162 [l0, l1, some (.ref x), l3, l4, l5, l6, l7, l8] (.ref x :: st) σ Q := gs_go f_244_161 rfl
theorem f_244_162 : ft 244 162 = some (359, .invokevirtual 105, [159, 1, 0, 1520]) := rfl
theorem s_244_162 {d : Nat} {t : yT} {st : List Value} {Q : xR → xS → Prop} {l0 l1 l2 l3 l4 l5 l6 l7 l8 : Option Value} {a0 : Nat} (ho : yisO 8 a0) : G (d + 1) 244 162 [l0, l1, l2, l3, l4, l5, l6, l7, l8] (.ref a0 :: st) (yemb t) Q ↔ xcat st ≤ 8 ∧ Cl d 159 [.ref a0] (yemb t) (Gk (d + 1) 244 162 [l0, l1, l2, l3, l4, l5, l6, l7, l8] st Q) := gs_call f_244_162 ((xinv_call (i := 162) (n := 1520) (ls := [l0, l1, l2, l3, l4, l5, l6, l7, l8]) (kind := 0) (σ := yemb t) (by decide)).trans (xcall_vi [.ref a0] rfl rfl (show (1 : Nat) ≤ 1 by decide) rfl ho))
theorem f_244_163 : ft 244 163 = some (362, .if_icmp .eq 1124, [879]) := rfl
theorem s_244_163 {d : Nat} {σ : xS} {st : List Value} {Q : xR → xS → Prop} {l0 l1 l2 l3 l4 l5 l6 l7 l8 : Option Value} {x y : Int32} : G d 244 163 [l0, l1, l2, l3, l4, l5, l6, l7, l8] (.int y :: .int x :: st) σ Q ↔ if x = y then G d 244 879 [l0, l1, l2, l3, l4, l5, l6, l7, l8] st σ Q else G d 244 164 [l0, l1, l2, l3, l4, l5, l6, l7, l8] st σ Q := gs_if f_244_163 rfl
theorem f_244_164 : ft 244 164 = some (365, .iconst 0, []) := rfl
theorem s_244_164 {d : Nat} {σ : xS} {st : List Value} {Q : xR → xS → Prop} {l0 l1 l2 l3 l4 l5 l6 l7 l8 : Option Value} : G d 244 164 [l0, l1, l2, l3, l4, l5, l6, l7, l8] st σ Q ↔ G d 244 165 [l0, l1, l2, l3, l4, l5, l6, l7, l8] (.int (0) :: st) σ Q := gs_go f_244_164 rfl
theorem f_244_165 : ft 244 165 = some (366, .ireturn, []) := rfl
theorem s_244_165 {d : Nat} {σ : xS} {ls : xL} {Q : xR → xS → Prop} {x : Int32} : G d 244 165 ls [.int x] σ Q ↔ ybo x ∧ Q (.inl (some (.int x))) σ := gs_retb f_244_165 rfl
theorem f_244_166 : ft 244 166 = some (367, .aload_n 1, []) := rfl
theorem s_244_166 {d : Nat} {σ : xS} {st : List Value} {Q : xR → xS → Prop} {l0 l2 l3 l4 l5 l6 l7 l8 : Option Value} {x : Nat} : G d 244 166 [l0, some (.ref x), l2, l3, l4, l5, l6, l7, l8] st σ Q ↔ G d 244 167 [l0, some (.ref x), l2, l3, l4, l5, l6, l7, l8] (.ref x :: st) σ Q := gs_go f_244_166 rfl
theorem f_244_167 : ft 244 167 = some (368, .aload_n 0, []) := rfl
theorem s_244_167 {d : Nat} {σ : xS} {st : List Value} {Q : xR → xS → Prop} {l1 l2 l3 l4 l5 l6 l7 l8 : Option Value} {x : Nat} : G d 244 167 [some (.ref x), l1, l2, l3, l4, l5, l6, l7, l8] st σ Q ↔ G d 244 168 [some (.ref x), l1, l2, l3, l4, l5, l6, l7, l8] (.ref x :: st) σ Q := gs_go f_244_167 rfl
theorem f_244_168 : ft 244 168 = some (369, .iload 4, []) := rfl
theorem s_244_168 {d : Nat} {σ : xS} {st : List Value} {Q : xR → xS → Prop} {l0 l1 l2 l3 l5 l6 l7 l8 : Option Value} {x : Int32} : G d 244 168 [l0, l1, l2, l3, some (.int x), l5, l6, l7, l8] st σ Q ↔ G d 244 169 [l0, l1, l2, l3, some (.int x), l5, l6, l7, l8] (.int x :: st) σ Q := gs_go f_244_168 rfl
theorem f_244_169 : ft 244 169 = some (371, .iconst 1, []) := rfl
theorem s_244_169 {d : Nat} {σ : xS} {st : List Value} {Q : xR → xS → Prop} {l0 l1 l2 l3 l4 l5 l6 l7 l8 : Option Value} : G d 244 169 [l0, l1, l2, l3, l4, l5, l6, l7, l8] st σ Q ↔ G d 244 170 [l0, l1, l2, l3, l4, l5, l6, l7, l8] (.int (1) :: st) σ Q := gs_go f_244_169 rfl
theorem f_244_170 : ft 244 170 = some (372, .iadd, []) := rfl
theorem s_244_170 {d : Nat} {σ : xS} {st : List Value} {Q : xR → xS → Prop} {l0 l1 l2 l3 l4 l5 l6 l7 l8 : Option Value} {x y : Int32} : G d 244 170 [l0, l1, l2, l3, l4, l5, l6, l7, l8] (.int y :: .int x :: st) σ Q ↔ G d 244 171 [l0, l1, l2, l3, l4, l5, l6, l7, l8] (.int (x + y) :: st) σ Q := gs_go f_244_170 rfl
theorem f_244_171 : ft 244 171 = some (373, .iaload, []) := rfl
theorem s_244_171 {d : Nat} {t : yT} {st : List Value} {Q : xR → xS → Prop} {l0 l1 l2 l3 l4 l5 l6 l7 l8 : Option Value} {a : Nat} {x : Int32} (ha : yA 0 a) : G d 244 171 [l0, l1, l2, l3, l4, l5, l6, l7, l8] (.int x :: .ref a :: st) (yemb t) Q ↔ yix x (yn a) ∧ G d 244 172 [l0, l1, l2, l3, l4, l5, l6, l7, l8] (.int (t.A a x.toNatClampNeg) :: st) (yemb t) Q := gs_iald f_244_171 ha
theorem f_244_172 : ft 244 172 = some (374, .aload_n 3, []) := rfl
theorem s_244_172 {d : Nat} {σ : xS} {st : List Value} {Q : xR → xS → Prop} {l0 l1 l2 l4 l5 l6 l7 l8 : Option Value} {x : Nat} : G d 244 172 [l0, l1, l2, some (.ref x), l4, l5, l6, l7, l8] st σ Q ↔ G d 244 173 [l0, l1, l2, some (.ref x), l4, l5, l6, l7, l8] (.ref x :: st) σ Q := gs_go f_244_172 rfl
theorem f_244_173 : ft 244 173 = some (375, .invokestatic 106, [228, 3, 6, 1007]) := rfl
theorem s_244_173 {d : Nat} {σ : xS} {st : List Value} {Q : xR → xS → Prop} {l0 l1 l2 l3 l4 l5 l6 l7 l8 : Option Value} {a0 : Nat} {a1 : Int32} {a2 : Nat} : G (d + 1) 244 173 [l0, l1, l2, l3, l4, l5, l6, l7, l8] (.ref a2 :: .int a1 :: .ref a0 :: st) σ Q ↔ xcat st ≤ 8 ∧ Cl d 228 [.ref a0, .int a1, .ref a2] σ (Gk (d + 1) 244 173 [l0, l1, l2, l3, l4, l5, l6, l7, l8] st Q) := gs_call f_244_173 ((xinv_call (i := 173) (n := 1007) (ls := [l0, l1, l2, l3, l4, l5, l6, l7, l8]) (kind := 6) (σ := σ) (by decide)).trans (xcall_st [.ref a2, .int a1, .ref a0] rfl (by decide) (show (3 : Nat) ≤ 4 by decide)))
theorem f_244_174 : ft 244 174 = some (378, .istore 5, []) := rfl
theorem s_244_174 {d : Nat} {σ : xS} {st : List Value} {Q : xR → xS → Prop} {l0 l1 l2 l3 l4 l5 l6 l7 l8 : Option Value} {x : Int32} : G d 244 174 [l0, l1, l2, l3, l4, l5, l6, l7, l8] (.int x :: st) σ Q ↔ G d 244 175 [l0, l1, l2, l3, ykl l4, some (.int x), l6, l7, l8] st σ Q := by
  cases l4 with
  | none => exact gs_go f_244_174 rfl
  | some v => cases v <;> exact gs_go f_244_174 rfl
theorem f_244_175 : ft 244 175 = some (380, .aload_n 2, []) := rfl
theorem s_244_175 {d : Nat} {σ : xS} {st : List Value} {Q : xR → xS → Prop} {l0 l1 l3 l4 l5 l6 l7 l8 : Option Value} {x : Nat} : G d 244 175 [l0, l1, some (.ref x), l3, l4, l5, l6, l7, l8] st σ Q ↔ G d 244 176 [l0, l1, some (.ref x), l3, l4, l5, l6, l7, l8] (.ref x :: st) σ Q := gs_go f_244_175 rfl
theorem f_244_176 : ft 244 176 = some (381, .aload_n 0, []) := rfl
theorem s_244_176 {d : Nat} {σ : xS} {st : List Value} {Q : xR → xS → Prop} {l1 l2 l3 l4 l5 l6 l7 l8 : Option Value} {x : Nat} : G d 244 176 [some (.ref x), l1, l2, l3, l4, l5, l6, l7, l8] st σ Q ↔ G d 244 177 [some (.ref x), l1, l2, l3, l4, l5, l6, l7, l8] (.ref x :: st) σ Q := gs_go f_244_176 rfl
theorem f_244_177 : ft 244 177 = some (382, .iload 4, []) := rfl
theorem s_244_177 {d : Nat} {σ : xS} {st : List Value} {Q : xR → xS → Prop} {l0 l1 l2 l3 l5 l6 l7 l8 : Option Value} {x : Int32} : G d 244 177 [l0, l1, l2, l3, some (.int x), l5, l6, l7, l8] st σ Q ↔ G d 244 178 [l0, l1, l2, l3, some (.int x), l5, l6, l7, l8] (.int x :: st) σ Q := gs_go f_244_177 rfl
theorem f_244_178 : ft 244 178 = some (384, .iconst 1, []) := rfl
theorem s_244_178 {d : Nat} {σ : xS} {st : List Value} {Q : xR → xS → Prop} {l0 l1 l2 l3 l4 l5 l6 l7 l8 : Option Value} : G d 244 178 [l0, l1, l2, l3, l4, l5, l6, l7, l8] st σ Q ↔ G d 244 179 [l0, l1, l2, l3, l4, l5, l6, l7, l8] (.int (1) :: st) σ Q := gs_go f_244_178 rfl
theorem f_244_179 : ft 244 179 = some (385, .iadd, []) := rfl
theorem s_244_179 {d : Nat} {σ : xS} {st : List Value} {Q : xR → xS → Prop} {l0 l1 l2 l3 l4 l5 l6 l7 l8 : Option Value} {x y : Int32} : G d 244 179 [l0, l1, l2, l3, l4, l5, l6, l7, l8] (.int y :: .int x :: st) σ Q ↔ G d 244 180 [l0, l1, l2, l3, l4, l5, l6, l7, l8] (.int (x + y) :: st) σ Q := gs_go f_244_179 rfl
theorem f_244_180 : ft 244 180 = some (386, .iaload, []) := rfl
theorem s_244_180 {d : Nat} {t : yT} {st : List Value} {Q : xR → xS → Prop} {l0 l1 l2 l3 l4 l5 l6 l7 l8 : Option Value} {a : Nat} {x : Int32} (ha : yA 0 a) : G d 244 180 [l0, l1, l2, l3, l4, l5, l6, l7, l8] (.int x :: .ref a :: st) (yemb t) Q ↔ yix x (yn a) ∧ G d 244 181 [l0, l1, l2, l3, l4, l5, l6, l7, l8] (.int (t.A a x.toNatClampNeg) :: st) (yemb t) Q := gs_iald f_244_180 ha
theorem f_244_181 : ft 244 181 = some (387, .invokevirtual 108, [190, 2, 0, 1524]) := rfl
theorem s_244_181 {d : Nat} {t : yT} {st : List Value} {Q : xR → xS → Prop} {l0 l1 l2 l3 l4 l5 l6 l7 l8 : Option Value} {a0 : Nat} {a1 : Int32} (ho : yisO 8 a0) : G (d + 1) 244 181 [l0, l1, l2, l3, l4, l5, l6, l7, l8] (.int a1 :: .ref a0 :: st) (yemb t) Q ↔ xcat st ≤ 8 ∧ Cl d 190 [.ref a0, .int a1] (yemb t) (Gk (d + 1) 244 181 [l0, l1, l2, l3, l4, l5, l6, l7, l8] st Q) := gs_call f_244_181 ((xinv_call (i := 181) (n := 1524) (ls := [l0, l1, l2, l3, l4, l5, l6, l7, l8]) (kind := 0) (σ := yemb t) (by decide)).trans (xcall_vi [.int a1, .ref a0] rfl rfl (show (2 : Nat) ≤ 2 by decide) rfl ho))
theorem f_244_182 : ft 244 182 = some (390, .istore 6, []) := rfl
theorem s_244_182 {d : Nat} {σ : xS} {st : List Value} {Q : xR → xS → Prop} {l0 l1 l2 l3 l4 l5 l6 l7 l8 : Option Value} {x : Int32} : G d 244 182 [l0, l1, l2, l3, l4, l5, l6, l7, l8] (.int x :: st) σ Q ↔ G d 244 183 [l0, l1, l2, l3, l4, ykl l5, some (.int x), l7, l8] st σ Q := by
  cases l5 with
  | none => exact gs_go f_244_182 rfl
  | some v => cases v <;> exact gs_go f_244_182 rfl
theorem f_244_183 : ft 244 183 = some (392, .aload_n 2, []) := rfl
theorem s_244_183 {d : Nat} {σ : xS} {st : List Value} {Q : xR → xS → Prop} {l0 l1 l3 l4 l5 l6 l7 l8 : Option Value} {x : Nat} : G d 244 183 [l0, l1, some (.ref x), l3, l4, l5, l6, l7, l8] st σ Q ↔ G d 244 184 [l0, l1, some (.ref x), l3, l4, l5, l6, l7, l8] (.ref x :: st) σ Q := gs_go f_244_183 rfl
theorem f_244_184 : ft 244 184 = some (393, .invokevirtual 91, [123, 1, 0, 1277]) := rfl
theorem s_244_184 {d : Nat} {t : yT} {st : List Value} {Q : xR → xS → Prop} {l0 l1 l2 l3 l4 l5 l6 l7 l8 : Option Value} {a0 : Nat} (ho : yisO 8 a0) : G (d + 1) 244 184 [l0, l1, l2, l3, l4, l5, l6, l7, l8] (.ref a0 :: st) (yemb t) Q ↔ xcat st ≤ 8 ∧ Cl d 123 [.ref a0] (yemb t) (Gk (d + 1) 244 184 [l0, l1, l2, l3, l4, l5, l6, l7, l8] st Q) := gs_call f_244_184 ((xinv_call (i := 184) (n := 1277) (ls := [l0, l1, l2, l3, l4, l5, l6, l7, l8]) (kind := 0) (σ := yemb t) (by decide)).trans (xcall_vi [.ref a0] rfl rfl (show (1 : Nat) ≤ 1 by decide) rfl ho))
theorem f_244_185 : ft 244 185 = some (396, .iload 5, []) := rfl
theorem s_244_185 {d : Nat} {σ : xS} {st : List Value} {Q : xR → xS → Prop} {l0 l1 l2 l3 l4 l6 l7 l8 : Option Value} {x : Int32} : G d 244 185 [l0, l1, l2, l3, l4, some (.int x), l6, l7, l8] st σ Q ↔ G d 244 186 [l0, l1, l2, l3, l4, some (.int x), l6, l7, l8] (.int x :: st) σ Q := gs_go f_244_185 rfl
theorem f_244_186 : ft 244 186 = some (398, .if_icmp .eq 5, [189]) := rfl
theorem s_244_186 {d : Nat} {σ : xS} {st : List Value} {Q : xR → xS → Prop} {l0 l1 l2 l3 l4 l5 l6 l7 l8 : Option Value} {x y : Int32} : G d 244 186 [l0, l1, l2, l3, l4, l5, l6, l7, l8] (.int y :: .int x :: st) σ Q ↔ if x = y then G d 244 189 [l0, l1, l2, l3, l4, l5, l6, l7, l8] st σ Q else G d 244 187 [l0, l1, l2, l3, l4, l5, l6, l7, l8] st σ Q := gs_if f_244_186 rfl
theorem f_244_187 : ft 244 187 = some (401, .iconst 0, []) := rfl
theorem s_244_187 {d : Nat} {σ : xS} {st : List Value} {Q : xR → xS → Prop} {l0 l1 l2 l3 l4 l5 l6 l7 l8 : Option Value} : G d 244 187 [l0, l1, l2, l3, l4, l5, l6, l7, l8] st σ Q ↔ G d 244 188 [l0, l1, l2, l3, l4, l5, l6, l7, l8] (.int (0) :: st) σ Q := gs_go f_244_187 rfl
theorem f_244_188 : ft 244 188 = some (402, .ireturn, []) := rfl
theorem s_244_188 {d : Nat} {σ : xS} {ls : xL} {Q : xR → xS → Prop} {x : Int32} : G d 244 188 ls [.int x] σ Q ↔ ybo x ∧ Q (.inl (some (.int x))) σ := gs_retb f_244_188 rfl
theorem f_244_189 : ft 244 189 = some (403, .iload 5, []) := rfl
theorem s_244_189 {d : Nat} {σ : xS} {st : List Value} {Q : xR → xS → Prop} {l0 l1 l2 l3 l4 l6 l7 l8 : Option Value} {x : Int32} : G d 244 189 [l0, l1, l2, l3, l4, some (.int x), l6, l7, l8] st σ Q ↔ G d 244 190 [l0, l1, l2, l3, l4, some (.int x), l6, l7, l8] (.int x :: st) σ Q := gs_go f_244_189 rfl
theorem f_244_190 : ft 244 190 = some (405, .ifCond .ne 15, [200]) := rfl
theorem s_244_190 {d : Nat} {σ : xS} {st : List Value} {Q : xR → xS → Prop} {l0 l1 l2 l3 l4 l5 l6 l7 l8 : Option Value} {x : Int32} : G d 244 190 [l0, l1, l2, l3, l4, l5, l6, l7, l8] (.int x :: st) σ Q ↔ if x ≠ 0 then G d 244 200 [l0, l1, l2, l3, l4, l5, l6, l7, l8] st σ Q else G d 244 191 [l0, l1, l2, l3, l4, l5, l6, l7, l8] st σ Q := gs_if f_244_190 rfl
theorem f_244_191 : ft 244 191 = some (408, .aload_n 3, []) := rfl
theorem s_244_191 {d : Nat} {σ : xS} {st : List Value} {Q : xR → xS → Prop} {l0 l1 l2 l4 l5 l6 l7 l8 : Option Value} {x : Nat} : G d 244 191 [l0, l1, l2, some (.ref x), l4, l5, l6, l7, l8] st σ Q ↔ G d 244 192 [l0, l1, l2, some (.ref x), l4, l5, l6, l7, l8] (.ref x :: st) σ Q := gs_go f_244_191 rfl
theorem f_244_192 : ft 244 192 = some (409, .iconst 0, []) := rfl
theorem s_244_192 {d : Nat} {σ : xS} {st : List Value} {Q : xR → xS → Prop} {l0 l1 l2 l3 l4 l5 l6 l7 l8 : Option Value} : G d 244 192 [l0, l1, l2, l3, l4, l5, l6, l7, l8] st σ Q ↔ G d 244 193 [l0, l1, l2, l3, l4, l5, l6, l7, l8] (.int (0) :: st) σ Q := gs_go f_244_192 rfl
theorem f_244_193 : ft 244 193 = some (410, .laload, []) := rfl
theorem s_244_193 {d : Nat} {t : yT} {st : List Value} {Q : xR → xS → Prop} {l0 l1 l2 l3 l4 l5 l6 l7 l8 : Option Value} {a : Nat} {x : Int32} (ha : yLA a) : G d 244 193 [l0, l1, l2, l3, l4, l5, l6, l7, l8] (.int x :: .ref a :: st) (yemb t) Q ↔ yix x (yn a) ∧ G d 244 194 [l0, l1, l2, l3, l4, l5, l6, l7, l8] (.long (t.L a x.toNatClampNeg) :: st) (yemb t) Q := gs_lald f_244_193 ha
theorem f_244_194 : ft 244 194 = some (411, .iload 6, []) := rfl
theorem s_244_194 {d : Nat} {σ : xS} {st : List Value} {Q : xR → xS → Prop} {l0 l1 l2 l3 l4 l5 l7 l8 : Option Value} {x : Int32} : G d 244 194 [l0, l1, l2, l3, l4, l5, some (.int x), l7, l8] st σ Q ↔ G d 244 195 [l0, l1, l2, l3, l4, l5, some (.int x), l7, l8] (.int x :: st) σ Q := gs_go f_244_194 rfl
theorem f_244_195 : ft 244 195 = some (413, .i2l, []) := rfl
theorem s_244_195 {d : Nat} {σ : xS} {st : List Value} {Q : xR → xS → Prop} {l0 l1 l2 l3 l4 l5 l6 l7 l8 : Option Value} {x : Int32} : G d 244 195 [l0, l1, l2, l3, l4, l5, l6, l7, l8] (.int x :: st) σ Q ↔ G d 244 196 [l0, l1, l2, l3, l4, l5, l6, l7, l8] (.long x.toInt64 :: st) σ Q := gs_go f_244_195 rfl
theorem f_244_196 : ft 244 196 = some (414, .lcmp, []) := rfl
theorem s_244_196 {d : Nat} {σ : xS} {st : List Value} {Q : xR → xS → Prop} {l0 l1 l2 l3 l4 l5 l6 l7 l8 : Option Value} {x y : Int64} : G d 244 196 [l0, l1, l2, l3, l4, l5, l6, l7, l8] (.long y :: .long x :: st) σ Q ↔ G d 244 197 [l0, l1, l2, l3, l4, l5, l6, l7, l8] (.int (lg_cmp x y) :: st) σ Q := gs_go f_244_196 rfl
theorem f_244_197 : ft 244 197 = some (415, .ifCond .eq 5, [200]) := rfl
theorem s_244_197 {d : Nat} {σ : xS} {st : List Value} {Q : xR → xS → Prop} {l0 l1 l2 l3 l4 l5 l6 l7 l8 : Option Value} {x : Int32} : G d 244 197 [l0, l1, l2, l3, l4, l5, l6, l7, l8] (.int x :: st) σ Q ↔ if x = 0 then G d 244 200 [l0, l1, l2, l3, l4, l5, l6, l7, l8] st σ Q else G d 244 198 [l0, l1, l2, l3, l4, l5, l6, l7, l8] st σ Q := gs_if f_244_197 rfl
theorem f_244_198 : ft 244 198 = some (418, .iconst 0, []) := rfl
theorem s_244_198 {d : Nat} {σ : xS} {st : List Value} {Q : xR → xS → Prop} {l0 l1 l2 l3 l4 l5 l6 l7 l8 : Option Value} : G d 244 198 [l0, l1, l2, l3, l4, l5, l6, l7, l8] st σ Q ↔ G d 244 199 [l0, l1, l2, l3, l4, l5, l6, l7, l8] (.int (0) :: st) σ Q := gs_go f_244_198 rfl
theorem f_244_199 : ft 244 199 = some (419, .ireturn, []) := rfl
theorem s_244_199 {d : Nat} {σ : xS} {ls : xL} {Q : xR → xS → Prop} {x : Int32} : G d 244 199 ls [.int x] σ Q ↔ ybo x ∧ Q (.inl (some (.int x))) σ := gs_retb f_244_199 rfl
theorem f_244_200 : ft 244 200 = some (420, .goto 1066, [879]) := rfl
theorem s_244_200 {d : Nat} {σ : xS} {st : List Value} {Q : xR → xS → Prop} {l0 l1 l2 l3 l4 l5 l6 l7 l8 : Option Value} : G d 244 200 [l0, l1, l2, l3, l4, l5, l6, l7, l8] st σ Q ↔ G d 244 879 [l0, l1, l2, l3, l4, l5, l6, l7, l8] st σ Q := gs_go f_244_200 rfl
theorem f_244_201 : ft 244 201 = some (423, .aload_n 1, []) := rfl
theorem s_244_201 {d : Nat} {σ : xS} {st : List Value} {Q : xR → xS → Prop} {l0 l2 l3 l4 l5 l6 l7 l8 : Option Value} {x : Nat} : G d 244 201 [l0, some (.ref x), l2, l3, l4, l5, l6, l7, l8] st σ Q ↔ G d 244 202 [l0, some (.ref x), l2, l3, l4, l5, l6, l7, l8] (.ref x :: st) σ Q := gs_go f_244_201 rfl
theorem f_244_202 : ft 244 202 = some (424, .aload_n 0, []) := rfl
theorem s_244_202 {d : Nat} {σ : xS} {st : List Value} {Q : xR → xS → Prop} {l1 l2 l3 l4 l5 l6 l7 l8 : Option Value} {x : Nat} : G d 244 202 [some (.ref x), l1, l2, l3, l4, l5, l6, l7, l8] st σ Q ↔ G d 244 203 [some (.ref x), l1, l2, l3, l4, l5, l6, l7, l8] (.ref x :: st) σ Q := gs_go f_244_202 rfl
theorem f_244_203 : ft 244 203 = some (425, .iload 4, []) := rfl
theorem s_244_203 {d : Nat} {σ : xS} {st : List Value} {Q : xR → xS → Prop} {l0 l1 l2 l3 l5 l6 l7 l8 : Option Value} {x : Int32} : G d 244 203 [l0, l1, l2, l3, some (.int x), l5, l6, l7, l8] st σ Q ↔ G d 244 204 [l0, l1, l2, l3, some (.int x), l5, l6, l7, l8] (.int x :: st) σ Q := gs_go f_244_203 rfl
theorem f_244_204 : ft 244 204 = some (427, .iconst 1, []) := rfl
theorem s_244_204 {d : Nat} {σ : xS} {st : List Value} {Q : xR → xS → Prop} {l0 l1 l2 l3 l4 l5 l6 l7 l8 : Option Value} : G d 244 204 [l0, l1, l2, l3, l4, l5, l6, l7, l8] st σ Q ↔ G d 244 205 [l0, l1, l2, l3, l4, l5, l6, l7, l8] (.int (1) :: st) σ Q := gs_go f_244_204 rfl
theorem f_244_205 : ft 244 205 = some (428, .iadd, []) := rfl
theorem s_244_205 {d : Nat} {σ : xS} {st : List Value} {Q : xR → xS → Prop} {l0 l1 l2 l3 l4 l5 l6 l7 l8 : Option Value} {x y : Int32} : G d 244 205 [l0, l1, l2, l3, l4, l5, l6, l7, l8] (.int y :: .int x :: st) σ Q ↔ G d 244 206 [l0, l1, l2, l3, l4, l5, l6, l7, l8] (.int (x + y) :: st) σ Q := gs_go f_244_205 rfl
theorem f_244_206 : ft 244 206 = some (429, .iaload, []) := rfl
theorem s_244_206 {d : Nat} {t : yT} {st : List Value} {Q : xR → xS → Prop} {l0 l1 l2 l3 l4 l5 l6 l7 l8 : Option Value} {a : Nat} {x : Int32} (ha : yA 0 a) : G d 244 206 [l0, l1, l2, l3, l4, l5, l6, l7, l8] (.int x :: .ref a :: st) (yemb t) Q ↔ yix x (yn a) ∧ G d 244 207 [l0, l1, l2, l3, l4, l5, l6, l7, l8] (.int (t.A a x.toNatClampNeg) :: st) (yemb t) Q := gs_iald f_244_206 ha
theorem f_244_207 : ft 244 207 = some (430, .aload_n 0, []) := rfl
theorem s_244_207 {d : Nat} {σ : xS} {st : List Value} {Q : xR → xS → Prop} {l1 l2 l3 l4 l5 l6 l7 l8 : Option Value} {x : Nat} : G d 244 207 [some (.ref x), l1, l2, l3, l4, l5, l6, l7, l8] st σ Q ↔ G d 244 208 [some (.ref x), l1, l2, l3, l4, l5, l6, l7, l8] (.ref x :: st) σ Q := gs_go f_244_207 rfl
theorem f_244_208 : ft 244 208 = some (431, .iload 4, []) := rfl
theorem s_244_208 {d : Nat} {σ : xS} {st : List Value} {Q : xR → xS → Prop} {l0 l1 l2 l3 l5 l6 l7 l8 : Option Value} {x : Int32} : G d 244 208 [l0, l1, l2, l3, some (.int x), l5, l6, l7, l8] st σ Q ↔ G d 244 209 [l0, l1, l2, l3, some (.int x), l5, l6, l7, l8] (.int x :: st) σ Q := gs_go f_244_208 rfl
theorem f_244_209 : ft 244 209 = some (433, .iconst 2, []) := rfl
theorem s_244_209 {d : Nat} {σ : xS} {st : List Value} {Q : xR → xS → Prop} {l0 l1 l2 l3 l4 l5 l6 l7 l8 : Option Value} : G d 244 209 [l0, l1, l2, l3, l4, l5, l6, l7, l8] st σ Q ↔ G d 244 210 [l0, l1, l2, l3, l4, l5, l6, l7, l8] (.int (2) :: st) σ Q := gs_go f_244_209 rfl
theorem f_244_210 : ft 244 210 = some (434, .iadd, []) := rfl
theorem s_244_210 {d : Nat} {σ : xS} {st : List Value} {Q : xR → xS → Prop} {l0 l1 l2 l3 l4 l5 l6 l7 l8 : Option Value} {x y : Int32} : G d 244 210 [l0, l1, l2, l3, l4, l5, l6, l7, l8] (.int y :: .int x :: st) σ Q ↔ G d 244 211 [l0, l1, l2, l3, l4, l5, l6, l7, l8] (.int (x + y) :: st) σ Q := gs_go f_244_210 rfl
theorem f_244_211 : ft 244 211 = some (435, .iaload, []) := rfl
theorem s_244_211 {d : Nat} {t : yT} {st : List Value} {Q : xR → xS → Prop} {l0 l1 l2 l3 l4 l5 l6 l7 l8 : Option Value} {a : Nat} {x : Int32} (ha : yA 0 a) : G d 244 211 [l0, l1, l2, l3, l4, l5, l6, l7, l8] (.int x :: .ref a :: st) (yemb t) Q ↔ yix x (yn a) ∧ G d 244 212 [l0, l1, l2, l3, l4, l5, l6, l7, l8] (.int (t.A a x.toNatClampNeg) :: st) (yemb t) Q := gs_iald f_244_211 ha
theorem f_244_212 : ft 244 212 = some (436, .aload_n 3, []) := rfl
theorem s_244_212 {d : Nat} {σ : xS} {st : List Value} {Q : xR → xS → Prop} {l0 l1 l2 l4 l5 l6 l7 l8 : Option Value} {x : Nat} : G d 244 212 [l0, l1, l2, some (.ref x), l4, l5, l6, l7, l8] st σ Q ↔ G d 244 213 [l0, l1, l2, some (.ref x), l4, l5, l6, l7, l8] (.ref x :: st) σ Q := gs_go f_244_212 rfl
theorem f_244_213 : ft 244 213 = some (437, .invokestatic 109, [229, 4, 6, 1011]) := rfl
theorem s_244_213 {d : Nat} {σ : xS} {st : List Value} {Q : xR → xS → Prop} {l0 l1 l2 l3 l4 l5 l6 l7 l8 : Option Value} {a0 : Nat} {a1 : Int32} {a2 : Int32} {a3 : Nat} : G (d + 1) 244 213 [l0, l1, l2, l3, l4, l5, l6, l7, l8] (.ref a3 :: .int a2 :: .int a1 :: .ref a0 :: st) σ Q ↔ xcat st ≤ 8 ∧ Cl d 229 [.ref a0, .int a1, .int a2, .ref a3] σ (Gk (d + 1) 244 213 [l0, l1, l2, l3, l4, l5, l6, l7, l8] st Q) := gs_call f_244_213 ((xinv_call (i := 213) (n := 1011) (ls := [l0, l1, l2, l3, l4, l5, l6, l7, l8]) (kind := 6) (σ := σ) (by decide)).trans (xcall_st [.ref a3, .int a2, .int a1, .ref a0] rfl (by decide) (show (4 : Nat) ≤ 5 by decide)))
theorem f_244_214 : ft 244 214 = some (440, .istore 5, []) := rfl
theorem s_244_214 {d : Nat} {σ : xS} {st : List Value} {Q : xR → xS → Prop} {l0 l1 l2 l3 l4 l5 l6 l7 l8 : Option Value} {x : Int32} : G d 244 214 [l0, l1, l2, l3, l4, l5, l6, l7, l8] (.int x :: st) σ Q ↔ G d 244 215 [l0, l1, l2, l3, ykl l4, some (.int x), l6, l7, l8] st σ Q := by
  cases l4 with
  | none => exact gs_go f_244_214 rfl
  | some v => cases v <;> exact gs_go f_244_214 rfl
theorem f_244_215 : ft 244 215 = some (442, .aload_n 2, []) := rfl
theorem s_244_215 {d : Nat} {σ : xS} {st : List Value} {Q : xR → xS → Prop} {l0 l1 l3 l4 l5 l6 l7 l8 : Option Value} {x : Nat} : G d 244 215 [l0, l1, some (.ref x), l3, l4, l5, l6, l7, l8] st σ Q ↔ G d 244 216 [l0, l1, some (.ref x), l3, l4, l5, l6, l7, l8] (.ref x :: st) σ Q := gs_go f_244_215 rfl
theorem f_244_216 : ft 244 216 = some (443, .aload_n 0, []) := rfl
theorem s_244_216 {d : Nat} {σ : xS} {st : List Value} {Q : xR → xS → Prop} {l1 l2 l3 l4 l5 l6 l7 l8 : Option Value} {x : Nat} : G d 244 216 [some (.ref x), l1, l2, l3, l4, l5, l6, l7, l8] st σ Q ↔ G d 244 217 [some (.ref x), l1, l2, l3, l4, l5, l6, l7, l8] (.ref x :: st) σ Q := gs_go f_244_216 rfl
theorem f_244_217 : ft 244 217 = some (444, .iload 4, []) := rfl
theorem s_244_217 {d : Nat} {σ : xS} {st : List Value} {Q : xR → xS → Prop} {l0 l1 l2 l3 l5 l6 l7 l8 : Option Value} {x : Int32} : G d 244 217 [l0, l1, l2, l3, some (.int x), l5, l6, l7, l8] st σ Q ↔ G d 244 218 [l0, l1, l2, l3, some (.int x), l5, l6, l7, l8] (.int x :: st) σ Q := gs_go f_244_217 rfl
theorem f_244_218 : ft 244 218 = some (446, .iconst 1, []) := rfl
theorem s_244_218 {d : Nat} {σ : xS} {st : List Value} {Q : xR → xS → Prop} {l0 l1 l2 l3 l4 l5 l6 l7 l8 : Option Value} : G d 244 218 [l0, l1, l2, l3, l4, l5, l6, l7, l8] st σ Q ↔ G d 244 219 [l0, l1, l2, l3, l4, l5, l6, l7, l8] (.int (1) :: st) σ Q := gs_go f_244_218 rfl
theorem f_244_219 : ft 244 219 = some (447, .iadd, []) := rfl
theorem s_244_219 {d : Nat} {σ : xS} {st : List Value} {Q : xR → xS → Prop} {l0 l1 l2 l3 l4 l5 l6 l7 l8 : Option Value} {x y : Int32} : G d 244 219 [l0, l1, l2, l3, l4, l5, l6, l7, l8] (.int y :: .int x :: st) σ Q ↔ G d 244 220 [l0, l1, l2, l3, l4, l5, l6, l7, l8] (.int (x + y) :: st) σ Q := gs_go f_244_219 rfl
theorem f_244_220 : ft 244 220 = some (448, .iaload, []) := rfl
theorem s_244_220 {d : Nat} {t : yT} {st : List Value} {Q : xR → xS → Prop} {l0 l1 l2 l3 l4 l5 l6 l7 l8 : Option Value} {a : Nat} {x : Int32} (ha : yA 0 a) : G d 244 220 [l0, l1, l2, l3, l4, l5, l6, l7, l8] (.int x :: .ref a :: st) (yemb t) Q ↔ yix x (yn a) ∧ G d 244 221 [l0, l1, l2, l3, l4, l5, l6, l7, l8] (.int (t.A a x.toNatClampNeg) :: st) (yemb t) Q := gs_iald f_244_220 ha
theorem f_244_221 : ft 244 221 = some (449, .aload_n 0, []) := rfl
theorem s_244_221 {d : Nat} {σ : xS} {st : List Value} {Q : xR → xS → Prop} {l1 l2 l3 l4 l5 l6 l7 l8 : Option Value} {x : Nat} : G d 244 221 [some (.ref x), l1, l2, l3, l4, l5, l6, l7, l8] st σ Q ↔ G d 244 222 [some (.ref x), l1, l2, l3, l4, l5, l6, l7, l8] (.ref x :: st) σ Q := gs_go f_244_221 rfl
theorem f_244_222 : ft 244 222 = some (450, .iload 4, []) := rfl
theorem s_244_222 {d : Nat} {σ : xS} {st : List Value} {Q : xR → xS → Prop} {l0 l1 l2 l3 l5 l6 l7 l8 : Option Value} {x : Int32} : G d 244 222 [l0, l1, l2, l3, some (.int x), l5, l6, l7, l8] st σ Q ↔ G d 244 223 [l0, l1, l2, l3, some (.int x), l5, l6, l7, l8] (.int x :: st) σ Q := gs_go f_244_222 rfl
theorem f_244_223 : ft 244 223 = some (452, .iconst 2, []) := rfl
theorem s_244_223 {d : Nat} {σ : xS} {st : List Value} {Q : xR → xS → Prop} {l0 l1 l2 l3 l4 l5 l6 l7 l8 : Option Value} : G d 244 223 [l0, l1, l2, l3, l4, l5, l6, l7, l8] st σ Q ↔ G d 244 224 [l0, l1, l2, l3, l4, l5, l6, l7, l8] (.int (2) :: st) σ Q := gs_go f_244_223 rfl
theorem f_244_224 : ft 244 224 = some (453, .iadd, []) := rfl
theorem s_244_224 {d : Nat} {σ : xS} {st : List Value} {Q : xR → xS → Prop} {l0 l1 l2 l3 l4 l5 l6 l7 l8 : Option Value} {x y : Int32} : G d 244 224 [l0, l1, l2, l3, l4, l5, l6, l7, l8] (.int y :: .int x :: st) σ Q ↔ G d 244 225 [l0, l1, l2, l3, l4, l5, l6, l7, l8] (.int (x + y) :: st) σ Q := gs_go f_244_224 rfl
theorem f_244_225 : ft 244 225 = some (454, .iaload, []) := rfl
theorem s_244_225 {d : Nat} {t : yT} {st : List Value} {Q : xR → xS → Prop} {l0 l1 l2 l3 l4 l5 l6 l7 l8 : Option Value} {a : Nat} {x : Int32} (ha : yA 0 a) : G d 244 225 [l0, l1, l2, l3, l4, l5, l6, l7, l8] (.int x :: .ref a :: st) (yemb t) Q ↔ yix x (yn a) ∧ G d 244 226 [l0, l1, l2, l3, l4, l5, l6, l7, l8] (.int (t.A a x.toNatClampNeg) :: st) (yemb t) Q := gs_iald f_244_225 ha
theorem f_244_226 : ft 244 226 = some (455, .invokevirtual 112, [192, 3, 0, 1548]) := rfl
theorem s_244_226 {d : Nat} {t : yT} {st : List Value} {Q : xR → xS → Prop} {l0 l1 l2 l3 l4 l5 l6 l7 l8 : Option Value} {a0 : Nat} {a1 : Int32} {a2 : Int32} (ho : yisO 8 a0) : G (d + 1) 244 226 [l0, l1, l2, l3, l4, l5, l6, l7, l8] (.int a2 :: .int a1 :: .ref a0 :: st) (yemb t) Q ↔ xcat st ≤ 8 ∧ Cl d 192 [.ref a0, .int a1, .int a2] (yemb t) (Gk (d + 1) 244 226 [l0, l1, l2, l3, l4, l5, l6, l7, l8] st Q) := gs_call f_244_226 ((xinv_call (i := 226) (n := 1548) (ls := [l0, l1, l2, l3, l4, l5, l6, l7, l8]) (kind := 0) (σ := yemb t) (by decide)).trans (xcall_vi [.int a2, .int a1, .ref a0] rfl rfl (show (3 : Nat) ≤ 3 by decide) rfl ho))
theorem f_244_227 : ft 244 227 = some (458, .istore 6, []) := rfl
theorem s_244_227 {d : Nat} {σ : xS} {st : List Value} {Q : xR → xS → Prop} {l0 l1 l2 l3 l4 l5 l6 l7 l8 : Option Value} {x : Int32} : G d 244 227 [l0, l1, l2, l3, l4, l5, l6, l7, l8] (.int x :: st) σ Q ↔ G d 244 228 [l0, l1, l2, l3, l4, ykl l5, some (.int x), l7, l8] st σ Q := by
  cases l5 with
  | none => exact gs_go f_244_227 rfl
  | some v => cases v <;> exact gs_go f_244_227 rfl
theorem f_244_228 : ft 244 228 = some (460, .aload_n 2, []) := rfl
theorem s_244_228 {d : Nat} {σ : xS} {st : List Value} {Q : xR → xS → Prop} {l0 l1 l3 l4 l5 l6 l7 l8 : Option Value} {x : Nat} : G d 244 228 [l0, l1, some (.ref x), l3, l4, l5, l6, l7, l8] st σ Q ↔ G d 244 229 [l0, l1, some (.ref x), l3, l4, l5, l6, l7, l8] (.ref x :: st) σ Q := gs_go f_244_228 rfl
theorem f_244_229 : ft 244 229 = some (461, .invokevirtual 91, [123, 1, 0, 1277]) := rfl
theorem s_244_229 {d : Nat} {t : yT} {st : List Value} {Q : xR → xS → Prop} {l0 l1 l2 l3 l4 l5 l6 l7 l8 : Option Value} {a0 : Nat} (ho : yisO 8 a0) : G (d + 1) 244 229 [l0, l1, l2, l3, l4, l5, l6, l7, l8] (.ref a0 :: st) (yemb t) Q ↔ xcat st ≤ 8 ∧ Cl d 123 [.ref a0] (yemb t) (Gk (d + 1) 244 229 [l0, l1, l2, l3, l4, l5, l6, l7, l8] st Q) := gs_call f_244_229 ((xinv_call (i := 229) (n := 1277) (ls := [l0, l1, l2, l3, l4, l5, l6, l7, l8]) (kind := 0) (σ := yemb t) (by decide)).trans (xcall_vi [.ref a0] rfl rfl (show (1 : Nat) ≤ 1 by decide) rfl ho))
theorem f_244_230 : ft 244 230 = some (464, .iload 5, []) := rfl
theorem s_244_230 {d : Nat} {σ : xS} {st : List Value} {Q : xR → xS → Prop} {l0 l1 l2 l3 l4 l6 l7 l8 : Option Value} {x : Int32} : G d 244 230 [l0, l1, l2, l3, l4, some (.int x), l6, l7, l8] st σ Q ↔ G d 244 231 [l0, l1, l2, l3, l4, some (.int x), l6, l7, l8] (.int x :: st) σ Q := gs_go f_244_230 rfl
theorem f_244_231 : ft 244 231 = some (466, .if_icmp .eq 5, [234]) := rfl
theorem s_244_231 {d : Nat} {σ : xS} {st : List Value} {Q : xR → xS → Prop} {l0 l1 l2 l3 l4 l5 l6 l7 l8 : Option Value} {x y : Int32} : G d 244 231 [l0, l1, l2, l3, l4, l5, l6, l7, l8] (.int y :: .int x :: st) σ Q ↔ if x = y then G d 244 234 [l0, l1, l2, l3, l4, l5, l6, l7, l8] st σ Q else G d 244 232 [l0, l1, l2, l3, l4, l5, l6, l7, l8] st σ Q := gs_if f_244_231 rfl
theorem f_244_232 : ft 244 232 = some (469, .iconst 0, []) := rfl
theorem s_244_232 {d : Nat} {σ : xS} {st : List Value} {Q : xR → xS → Prop} {l0 l1 l2 l3 l4 l5 l6 l7 l8 : Option Value} : G d 244 232 [l0, l1, l2, l3, l4, l5, l6, l7, l8] st σ Q ↔ G d 244 233 [l0, l1, l2, l3, l4, l5, l6, l7, l8] (.int (0) :: st) σ Q := gs_go f_244_232 rfl
theorem f_244_233 : ft 244 233 = some (470, .ireturn, []) := rfl
theorem s_244_233 {d : Nat} {σ : xS} {ls : xL} {Q : xR → xS → Prop} {x : Int32} : G d 244 233 ls [.int x] σ Q ↔ ybo x ∧ Q (.inl (some (.int x))) σ := gs_retb f_244_233 rfl
theorem f_244_234 : ft 244 234 = some (471, .iload 5, []) := rfl
theorem s_244_234 {d : Nat} {σ : xS} {st : List Value} {Q : xR → xS → Prop} {l0 l1 l2 l3 l4 l6 l7 l8 : Option Value} {x : Int32} : G d 244 234 [l0, l1, l2, l3, l4, some (.int x), l6, l7, l8] st σ Q ↔ G d 244 235 [l0, l1, l2, l3, l4, some (.int x), l6, l7, l8] (.int x :: st) σ Q := gs_go f_244_234 rfl
theorem f_244_235 : ft 244 235 = some (473, .ifCond .ne 15, [245]) := rfl
theorem s_244_235 {d : Nat} {σ : xS} {st : List Value} {Q : xR → xS → Prop} {l0 l1 l2 l3 l4 l5 l6 l7 l8 : Option Value} {x : Int32} : G d 244 235 [l0, l1, l2, l3, l4, l5, l6, l7, l8] (.int x :: st) σ Q ↔ if x ≠ 0 then G d 244 245 [l0, l1, l2, l3, l4, l5, l6, l7, l8] st σ Q else G d 244 236 [l0, l1, l2, l3, l4, l5, l6, l7, l8] st σ Q := gs_if f_244_235 rfl
theorem f_244_236 : ft 244 236 = some (476, .aload_n 3, []) := rfl
theorem s_244_236 {d : Nat} {σ : xS} {st : List Value} {Q : xR → xS → Prop} {l0 l1 l2 l4 l5 l6 l7 l8 : Option Value} {x : Nat} : G d 244 236 [l0, l1, l2, some (.ref x), l4, l5, l6, l7, l8] st σ Q ↔ G d 244 237 [l0, l1, l2, some (.ref x), l4, l5, l6, l7, l8] (.ref x :: st) σ Q := gs_go f_244_236 rfl
theorem f_244_237 : ft 244 237 = some (477, .iconst 0, []) := rfl
theorem s_244_237 {d : Nat} {σ : xS} {st : List Value} {Q : xR → xS → Prop} {l0 l1 l2 l3 l4 l5 l6 l7 l8 : Option Value} : G d 244 237 [l0, l1, l2, l3, l4, l5, l6, l7, l8] st σ Q ↔ G d 244 238 [l0, l1, l2, l3, l4, l5, l6, l7, l8] (.int (0) :: st) σ Q := gs_go f_244_237 rfl
theorem f_244_238 : ft 244 238 = some (478, .laload, []) := rfl
theorem s_244_238 {d : Nat} {t : yT} {st : List Value} {Q : xR → xS → Prop} {l0 l1 l2 l3 l4 l5 l6 l7 l8 : Option Value} {a : Nat} {x : Int32} (ha : yLA a) : G d 244 238 [l0, l1, l2, l3, l4, l5, l6, l7, l8] (.int x :: .ref a :: st) (yemb t) Q ↔ yix x (yn a) ∧ G d 244 239 [l0, l1, l2, l3, l4, l5, l6, l7, l8] (.long (t.L a x.toNatClampNeg) :: st) (yemb t) Q := gs_lald f_244_238 ha
theorem f_244_239 : ft 244 239 = some (479, .iload 6, []) := rfl
theorem s_244_239 {d : Nat} {σ : xS} {st : List Value} {Q : xR → xS → Prop} {l0 l1 l2 l3 l4 l5 l7 l8 : Option Value} {x : Int32} : G d 244 239 [l0, l1, l2, l3, l4, l5, some (.int x), l7, l8] st σ Q ↔ G d 244 240 [l0, l1, l2, l3, l4, l5, some (.int x), l7, l8] (.int x :: st) σ Q := gs_go f_244_239 rfl
theorem f_244_240 : ft 244 240 = some (481, .i2l, []) := rfl
theorem s_244_240 {d : Nat} {σ : xS} {st : List Value} {Q : xR → xS → Prop} {l0 l1 l2 l3 l4 l5 l6 l7 l8 : Option Value} {x : Int32} : G d 244 240 [l0, l1, l2, l3, l4, l5, l6, l7, l8] (.int x :: st) σ Q ↔ G d 244 241 [l0, l1, l2, l3, l4, l5, l6, l7, l8] (.long x.toInt64 :: st) σ Q := gs_go f_244_240 rfl
theorem f_244_241 : ft 244 241 = some (482, .lcmp, []) := rfl
theorem s_244_241 {d : Nat} {σ : xS} {st : List Value} {Q : xR → xS → Prop} {l0 l1 l2 l3 l4 l5 l6 l7 l8 : Option Value} {x y : Int64} : G d 244 241 [l0, l1, l2, l3, l4, l5, l6, l7, l8] (.long y :: .long x :: st) σ Q ↔ G d 244 242 [l0, l1, l2, l3, l4, l5, l6, l7, l8] (.int (lg_cmp x y) :: st) σ Q := gs_go f_244_241 rfl
theorem f_244_242 : ft 244 242 = some (483, .ifCond .eq 5, [245]) := rfl
theorem s_244_242 {d : Nat} {σ : xS} {st : List Value} {Q : xR → xS → Prop} {l0 l1 l2 l3 l4 l5 l6 l7 l8 : Option Value} {x : Int32} : G d 244 242 [l0, l1, l2, l3, l4, l5, l6, l7, l8] (.int x :: st) σ Q ↔ if x = 0 then G d 244 245 [l0, l1, l2, l3, l4, l5, l6, l7, l8] st σ Q else G d 244 243 [l0, l1, l2, l3, l4, l5, l6, l7, l8] st σ Q := gs_if f_244_242 rfl
theorem f_244_243 : ft 244 243 = some (486, .iconst 0, []) := rfl
theorem s_244_243 {d : Nat} {σ : xS} {st : List Value} {Q : xR → xS → Prop} {l0 l1 l2 l3 l4 l5 l6 l7 l8 : Option Value} : G d 244 243 [l0, l1, l2, l3, l4, l5, l6, l7, l8] st σ Q ↔ G d 244 244 [l0, l1, l2, l3, l4, l5, l6, l7, l8] (.int (0) :: st) σ Q := gs_go f_244_243 rfl
theorem f_244_244 : ft 244 244 = some (487, .ireturn, []) := rfl
theorem s_244_244 {d : Nat} {σ : xS} {ls : xL} {Q : xR → xS → Prop} {x : Int32} : G d 244 244 ls [.int x] σ Q ↔ ybo x ∧ Q (.inl (some (.int x))) σ := gs_retb f_244_244 rfl
theorem f_244_245 : ft 244 245 = some (488, .goto 998, [879]) := rfl
theorem s_244_245 {d : Nat} {σ : xS} {st : List Value} {Q : xR → xS → Prop} {l0 l1 l2 l3 l4 l5 l6 l7 l8 : Option Value} : G d 244 245 [l0, l1, l2, l3, l4, l5, l6, l7, l8] st σ Q ↔ G d 244 879 [l0, l1, l2, l3, l4, l5, l6, l7, l8] st σ Q := gs_go f_244_245 rfl
theorem f_244_246 : ft 244 246 = some (491, .aload_n 1, []) := rfl
theorem s_244_246 {d : Nat} {σ : xS} {st : List Value} {Q : xR → xS → Prop} {l0 l2 l3 l4 l5 l6 l7 l8 : Option Value} {x : Nat} : G d 244 246 [l0, some (.ref x), l2, l3, l4, l5, l6, l7, l8] st σ Q ↔ G d 244 247 [l0, some (.ref x), l2, l3, l4, l5, l6, l7, l8] (.ref x :: st) σ Q := gs_go f_244_246 rfl
theorem f_244_247 : ft 244 247 = some (492, .aload_n 0, []) := rfl
theorem s_244_247 {d : Nat} {σ : xS} {st : List Value} {Q : xR → xS → Prop} {l1 l2 l3 l4 l5 l6 l7 l8 : Option Value} {x : Nat} : G d 244 247 [some (.ref x), l1, l2, l3, l4, l5, l6, l7, l8] st σ Q ↔ G d 244 248 [some (.ref x), l1, l2, l3, l4, l5, l6, l7, l8] (.ref x :: st) σ Q := gs_go f_244_247 rfl
theorem f_244_248 : ft 244 248 = some (493, .iload 4, []) := rfl
theorem s_244_248 {d : Nat} {σ : xS} {st : List Value} {Q : xR → xS → Prop} {l0 l1 l2 l3 l5 l6 l7 l8 : Option Value} {x : Int32} : G d 244 248 [l0, l1, l2, l3, some (.int x), l5, l6, l7, l8] st σ Q ↔ G d 244 249 [l0, l1, l2, l3, some (.int x), l5, l6, l7, l8] (.int x :: st) σ Q := gs_go f_244_248 rfl
theorem f_244_249 : ft 244 249 = some (495, .iconst 1, []) := rfl
theorem s_244_249 {d : Nat} {σ : xS} {st : List Value} {Q : xR → xS → Prop} {l0 l1 l2 l3 l4 l5 l6 l7 l8 : Option Value} : G d 244 249 [l0, l1, l2, l3, l4, l5, l6, l7, l8] st σ Q ↔ G d 244 250 [l0, l1, l2, l3, l4, l5, l6, l7, l8] (.int (1) :: st) σ Q := gs_go f_244_249 rfl
theorem f_244_250 : ft 244 250 = some (496, .iadd, []) := rfl
theorem s_244_250 {d : Nat} {σ : xS} {st : List Value} {Q : xR → xS → Prop} {l0 l1 l2 l3 l4 l5 l6 l7 l8 : Option Value} {x y : Int32} : G d 244 250 [l0, l1, l2, l3, l4, l5, l6, l7, l8] (.int y :: .int x :: st) σ Q ↔ G d 244 251 [l0, l1, l2, l3, l4, l5, l6, l7, l8] (.int (x + y) :: st) σ Q := gs_go f_244_250 rfl
theorem f_244_251 : ft 244 251 = some (497, .iaload, []) := rfl
theorem s_244_251 {d : Nat} {t : yT} {st : List Value} {Q : xR → xS → Prop} {l0 l1 l2 l3 l4 l5 l6 l7 l8 : Option Value} {a : Nat} {x : Int32} (ha : yA 0 a) : G d 244 251 [l0, l1, l2, l3, l4, l5, l6, l7, l8] (.int x :: .ref a :: st) (yemb t) Q ↔ yix x (yn a) ∧ G d 244 252 [l0, l1, l2, l3, l4, l5, l6, l7, l8] (.int (t.A a x.toNatClampNeg) :: st) (yemb t) Q := gs_iald f_244_251 ha
theorem f_244_252 : ft 244 252 = some (498, .aload_n 0, []) := rfl
theorem s_244_252 {d : Nat} {σ : xS} {st : List Value} {Q : xR → xS → Prop} {l1 l2 l3 l4 l5 l6 l7 l8 : Option Value} {x : Nat} : G d 244 252 [some (.ref x), l1, l2, l3, l4, l5, l6, l7, l8] st σ Q ↔ G d 244 253 [some (.ref x), l1, l2, l3, l4, l5, l6, l7, l8] (.ref x :: st) σ Q := gs_go f_244_252 rfl
theorem f_244_253 : ft 244 253 = some (499, .iload 4, []) := rfl
theorem s_244_253 {d : Nat} {σ : xS} {st : List Value} {Q : xR → xS → Prop} {l0 l1 l2 l3 l5 l6 l7 l8 : Option Value} {x : Int32} : G d 244 253 [l0, l1, l2, l3, some (.int x), l5, l6, l7, l8] st σ Q ↔ G d 244 254 [l0, l1, l2, l3, some (.int x), l5, l6, l7, l8] (.int x :: st) σ Q := gs_go f_244_253 rfl
theorem f_244_254 : ft 244 254 = some (501, .iconst 2, []) := rfl
theorem s_244_254 {d : Nat} {σ : xS} {st : List Value} {Q : xR → xS → Prop} {l0 l1 l2 l3 l4 l5 l6 l7 l8 : Option Value} : G d 244 254 [l0, l1, l2, l3, l4, l5, l6, l7, l8] st σ Q ↔ G d 244 255 [l0, l1, l2, l3, l4, l5, l6, l7, l8] (.int (2) :: st) σ Q := gs_go f_244_254 rfl
theorem f_244_255 : ft 244 255 = some (502, .iadd, []) := rfl
theorem s_244_255 {d : Nat} {σ : xS} {st : List Value} {Q : xR → xS → Prop} {l0 l1 l2 l3 l4 l5 l6 l7 l8 : Option Value} {x y : Int32} : G d 244 255 [l0, l1, l2, l3, l4, l5, l6, l7, l8] (.int y :: .int x :: st) σ Q ↔ G d 244 256 [l0, l1, l2, l3, l4, l5, l6, l7, l8] (.int (x + y) :: st) σ Q := gs_go f_244_255 rfl
theorem f_244_256 : ft 244 256 = some (503, .iaload, []) := rfl
theorem s_244_256 {d : Nat} {t : yT} {st : List Value} {Q : xR → xS → Prop} {l0 l1 l2 l3 l4 l5 l6 l7 l8 : Option Value} {a : Nat} {x : Int32} (ha : yA 0 a) : G d 244 256 [l0, l1, l2, l3, l4, l5, l6, l7, l8] (.int x :: .ref a :: st) (yemb t) Q ↔ yix x (yn a) ∧ G d 244 257 [l0, l1, l2, l3, l4, l5, l6, l7, l8] (.int (t.A a x.toNatClampNeg) :: st) (yemb t) Q := gs_iald f_244_256 ha
theorem f_244_257 : ft 244 257 = some (504, .aload_n 3, []) := rfl
theorem s_244_257 {d : Nat} {σ : xS} {st : List Value} {Q : xR → xS → Prop} {l0 l1 l2 l4 l5 l6 l7 l8 : Option Value} {x : Nat} : G d 244 257 [l0, l1, l2, some (.ref x), l4, l5, l6, l7, l8] st σ Q ↔ G d 244 258 [l0, l1, l2, some (.ref x), l4, l5, l6, l7, l8] (.ref x :: st) σ Q := gs_go f_244_257 rfl
theorem f_244_258 : ft 244 258 = some (505, .invokestatic 113, [230, 4, 6, 1016]) := rfl
theorem s_244_258 {d : Nat} {σ : xS} {st : List Value} {Q : xR → xS → Prop} {l0 l1 l2 l3 l4 l5 l6 l7 l8 : Option Value} {a0 : Nat} {a1 : Int32} {a2 : Int32} {a3 : Nat} : G (d + 1) 244 258 [l0, l1, l2, l3, l4, l5, l6, l7, l8] (.ref a3 :: .int a2 :: .int a1 :: .ref a0 :: st) σ Q ↔ xcat st ≤ 8 ∧ Cl d 230 [.ref a0, .int a1, .int a2, .ref a3] σ (Gk (d + 1) 244 258 [l0, l1, l2, l3, l4, l5, l6, l7, l8] st Q) := gs_call f_244_258 ((xinv_call (i := 258) (n := 1016) (ls := [l0, l1, l2, l3, l4, l5, l6, l7, l8]) (kind := 6) (σ := σ) (by decide)).trans (xcall_st [.ref a3, .int a2, .int a1, .ref a0] rfl (by decide) (show (4 : Nat) ≤ 5 by decide)))
theorem f_244_259 : ft 244 259 = some (508, .istore 5, []) := rfl
theorem s_244_259 {d : Nat} {σ : xS} {st : List Value} {Q : xR → xS → Prop} {l0 l1 l2 l3 l4 l5 l6 l7 l8 : Option Value} {x : Int32} : G d 244 259 [l0, l1, l2, l3, l4, l5, l6, l7, l8] (.int x :: st) σ Q ↔ G d 244 260 [l0, l1, l2, l3, ykl l4, some (.int x), l6, l7, l8] st σ Q := by
  cases l4 with
  | none => exact gs_go f_244_259 rfl
  | some v => cases v <;> exact gs_go f_244_259 rfl
theorem f_244_260 : ft 244 260 = some (510, .aload_n 2, []) := rfl
theorem s_244_260 {d : Nat} {σ : xS} {st : List Value} {Q : xR → xS → Prop} {l0 l1 l3 l4 l5 l6 l7 l8 : Option Value} {x : Nat} : G d 244 260 [l0, l1, some (.ref x), l3, l4, l5, l6, l7, l8] st σ Q ↔ G d 244 261 [l0, l1, some (.ref x), l3, l4, l5, l6, l7, l8] (.ref x :: st) σ Q := gs_go f_244_260 rfl
theorem f_244_261 : ft 244 261 = some (511, .aload_n 0, []) := rfl
theorem s_244_261 {d : Nat} {σ : xS} {st : List Value} {Q : xR → xS → Prop} {l1 l2 l3 l4 l5 l6 l7 l8 : Option Value} {x : Nat} : G d 244 261 [some (.ref x), l1, l2, l3, l4, l5, l6, l7, l8] st σ Q ↔ G d 244 262 [some (.ref x), l1, l2, l3, l4, l5, l6, l7, l8] (.ref x :: st) σ Q := gs_go f_244_261 rfl
theorem f_244_262 : ft 244 262 = some (512, .iload 4, []) := rfl
theorem s_244_262 {d : Nat} {σ : xS} {st : List Value} {Q : xR → xS → Prop} {l0 l1 l2 l3 l5 l6 l7 l8 : Option Value} {x : Int32} : G d 244 262 [l0, l1, l2, l3, some (.int x), l5, l6, l7, l8] st σ Q ↔ G d 244 263 [l0, l1, l2, l3, some (.int x), l5, l6, l7, l8] (.int x :: st) σ Q := gs_go f_244_262 rfl
theorem f_244_263 : ft 244 263 = some (514, .iconst 1, []) := rfl
theorem s_244_263 {d : Nat} {σ : xS} {st : List Value} {Q : xR → xS → Prop} {l0 l1 l2 l3 l4 l5 l6 l7 l8 : Option Value} : G d 244 263 [l0, l1, l2, l3, l4, l5, l6, l7, l8] st σ Q ↔ G d 244 264 [l0, l1, l2, l3, l4, l5, l6, l7, l8] (.int (1) :: st) σ Q := gs_go f_244_263 rfl
theorem f_244_264 : ft 244 264 = some (515, .iadd, []) := rfl
theorem s_244_264 {d : Nat} {σ : xS} {st : List Value} {Q : xR → xS → Prop} {l0 l1 l2 l3 l4 l5 l6 l7 l8 : Option Value} {x y : Int32} : G d 244 264 [l0, l1, l2, l3, l4, l5, l6, l7, l8] (.int y :: .int x :: st) σ Q ↔ G d 244 265 [l0, l1, l2, l3, l4, l5, l6, l7, l8] (.int (x + y) :: st) σ Q := gs_go f_244_264 rfl
theorem f_244_265 : ft 244 265 = some (516, .iaload, []) := rfl
theorem s_244_265 {d : Nat} {t : yT} {st : List Value} {Q : xR → xS → Prop} {l0 l1 l2 l3 l4 l5 l6 l7 l8 : Option Value} {a : Nat} {x : Int32} (ha : yA 0 a) : G d 244 265 [l0, l1, l2, l3, l4, l5, l6, l7, l8] (.int x :: .ref a :: st) (yemb t) Q ↔ yix x (yn a) ∧ G d 244 266 [l0, l1, l2, l3, l4, l5, l6, l7, l8] (.int (t.A a x.toNatClampNeg) :: st) (yemb t) Q := gs_iald f_244_265 ha
theorem f_244_266 : ft 244 266 = some (517, .aload_n 0, []) := rfl
theorem s_244_266 {d : Nat} {σ : xS} {st : List Value} {Q : xR → xS → Prop} {l1 l2 l3 l4 l5 l6 l7 l8 : Option Value} {x : Nat} : G d 244 266 [some (.ref x), l1, l2, l3, l4, l5, l6, l7, l8] st σ Q ↔ G d 244 267 [some (.ref x), l1, l2, l3, l4, l5, l6, l7, l8] (.ref x :: st) σ Q := gs_go f_244_266 rfl
theorem f_244_267 : ft 244 267 = some (518, .iload 4, []) := rfl
theorem s_244_267 {d : Nat} {σ : xS} {st : List Value} {Q : xR → xS → Prop} {l0 l1 l2 l3 l5 l6 l7 l8 : Option Value} {x : Int32} : G d 244 267 [l0, l1, l2, l3, some (.int x), l5, l6, l7, l8] st σ Q ↔ G d 244 268 [l0, l1, l2, l3, some (.int x), l5, l6, l7, l8] (.int x :: st) σ Q := gs_go f_244_267 rfl
theorem f_244_268 : ft 244 268 = some (520, .iconst 2, []) := rfl
theorem s_244_268 {d : Nat} {σ : xS} {st : List Value} {Q : xR → xS → Prop} {l0 l1 l2 l3 l4 l5 l6 l7 l8 : Option Value} : G d 244 268 [l0, l1, l2, l3, l4, l5, l6, l7, l8] st σ Q ↔ G d 244 269 [l0, l1, l2, l3, l4, l5, l6, l7, l8] (.int (2) :: st) σ Q := gs_go f_244_268 rfl
theorem f_244_269 : ft 244 269 = some (521, .iadd, []) := rfl
theorem s_244_269 {d : Nat} {σ : xS} {st : List Value} {Q : xR → xS → Prop} {l0 l1 l2 l3 l4 l5 l6 l7 l8 : Option Value} {x y : Int32} : G d 244 269 [l0, l1, l2, l3, l4, l5, l6, l7, l8] (.int y :: .int x :: st) σ Q ↔ G d 244 270 [l0, l1, l2, l3, l4, l5, l6, l7, l8] (.int (x + y) :: st) σ Q := gs_go f_244_269 rfl
theorem f_244_270 : ft 244 270 = some (522, .iaload, []) := rfl
theorem s_244_270 {d : Nat} {t : yT} {st : List Value} {Q : xR → xS → Prop} {l0 l1 l2 l3 l4 l5 l6 l7 l8 : Option Value} {a : Nat} {x : Int32} (ha : yA 0 a) : G d 244 270 [l0, l1, l2, l3, l4, l5, l6, l7, l8] (.int x :: .ref a :: st) (yemb t) Q ↔ yix x (yn a) ∧ G d 244 271 [l0, l1, l2, l3, l4, l5, l6, l7, l8] (.int (t.A a x.toNatClampNeg) :: st) (yemb t) Q := gs_iald f_244_270 ha
theorem f_244_271 : ft 244 271 = some (523, .invokevirtual 115, [194, 3, 0, 1560]) := rfl
theorem s_244_271 {d : Nat} {t : yT} {st : List Value} {Q : xR → xS → Prop} {l0 l1 l2 l3 l4 l5 l6 l7 l8 : Option Value} {a0 : Nat} {a1 : Int32} {a2 : Int32} (ho : yisO 8 a0) : G (d + 1) 244 271 [l0, l1, l2, l3, l4, l5, l6, l7, l8] (.int a2 :: .int a1 :: .ref a0 :: st) (yemb t) Q ↔ xcat st ≤ 8 ∧ Cl d 194 [.ref a0, .int a1, .int a2] (yemb t) (Gk (d + 1) 244 271 [l0, l1, l2, l3, l4, l5, l6, l7, l8] st Q) := gs_call f_244_271 ((xinv_call (i := 271) (n := 1560) (ls := [l0, l1, l2, l3, l4, l5, l6, l7, l8]) (kind := 0) (σ := yemb t) (by decide)).trans (xcall_vi [.int a2, .int a1, .ref a0] rfl rfl (show (3 : Nat) ≤ 3 by decide) rfl ho))
theorem f_244_272 : ft 244 272 = some (526, .istore 6, []) := rfl
theorem s_244_272 {d : Nat} {σ : xS} {st : List Value} {Q : xR → xS → Prop} {l0 l1 l2 l3 l4 l5 l6 l7 l8 : Option Value} {x : Int32} : G d 244 272 [l0, l1, l2, l3, l4, l5, l6, l7, l8] (.int x :: st) σ Q ↔ G d 244 273 [l0, l1, l2, l3, l4, ykl l5, some (.int x), l7, l8] st σ Q := by
  cases l5 with
  | none => exact gs_go f_244_272 rfl
  | some v => cases v <;> exact gs_go f_244_272 rfl
theorem f_244_273 : ft 244 273 = some (528, .aload_n 2, []) := rfl
theorem s_244_273 {d : Nat} {σ : xS} {st : List Value} {Q : xR → xS → Prop} {l0 l1 l3 l4 l5 l6 l7 l8 : Option Value} {x : Nat} : G d 244 273 [l0, l1, some (.ref x), l3, l4, l5, l6, l7, l8] st σ Q ↔ G d 244 274 [l0, l1, some (.ref x), l3, l4, l5, l6, l7, l8] (.ref x :: st) σ Q := gs_go f_244_273 rfl
theorem f_244_274 : ft 244 274 = some (529, .invokevirtual 91, [123, 1, 0, 1277]) := rfl
theorem s_244_274 {d : Nat} {t : yT} {st : List Value} {Q : xR → xS → Prop} {l0 l1 l2 l3 l4 l5 l6 l7 l8 : Option Value} {a0 : Nat} (ho : yisO 8 a0) : G (d + 1) 244 274 [l0, l1, l2, l3, l4, l5, l6, l7, l8] (.ref a0 :: st) (yemb t) Q ↔ xcat st ≤ 8 ∧ Cl d 123 [.ref a0] (yemb t) (Gk (d + 1) 244 274 [l0, l1, l2, l3, l4, l5, l6, l7, l8] st Q) := gs_call f_244_274 ((xinv_call (i := 274) (n := 1277) (ls := [l0, l1, l2, l3, l4, l5, l6, l7, l8]) (kind := 0) (σ := yemb t) (by decide)).trans (xcall_vi [.ref a0] rfl rfl (show (1 : Nat) ≤ 1 by decide) rfl ho))
theorem f_244_275 : ft 244 275 = some (532, .iload 5, []) := rfl
theorem s_244_275 {d : Nat} {σ : xS} {st : List Value} {Q : xR → xS → Prop} {l0 l1 l2 l3 l4 l6 l7 l8 : Option Value} {x : Int32} : G d 244 275 [l0, l1, l2, l3, l4, some (.int x), l6, l7, l8] st σ Q ↔ G d 244 276 [l0, l1, l2, l3, l4, some (.int x), l6, l7, l8] (.int x :: st) σ Q := gs_go f_244_275 rfl
theorem f_244_276 : ft 244 276 = some (534, .if_icmp .eq 5, [279]) := rfl
theorem s_244_276 {d : Nat} {σ : xS} {st : List Value} {Q : xR → xS → Prop} {l0 l1 l2 l3 l4 l5 l6 l7 l8 : Option Value} {x y : Int32} : G d 244 276 [l0, l1, l2, l3, l4, l5, l6, l7, l8] (.int y :: .int x :: st) σ Q ↔ if x = y then G d 244 279 [l0, l1, l2, l3, l4, l5, l6, l7, l8] st σ Q else G d 244 277 [l0, l1, l2, l3, l4, l5, l6, l7, l8] st σ Q := gs_if f_244_276 rfl
theorem f_244_277 : ft 244 277 = some (537, .iconst 0, []) := rfl
theorem s_244_277 {d : Nat} {σ : xS} {st : List Value} {Q : xR → xS → Prop} {l0 l1 l2 l3 l4 l5 l6 l7 l8 : Option Value} : G d 244 277 [l0, l1, l2, l3, l4, l5, l6, l7, l8] st σ Q ↔ G d 244 278 [l0, l1, l2, l3, l4, l5, l6, l7, l8] (.int (0) :: st) σ Q := gs_go f_244_277 rfl
theorem f_244_278 : ft 244 278 = some (538, .ireturn, []) := rfl
theorem s_244_278 {d : Nat} {σ : xS} {ls : xL} {Q : xR → xS → Prop} {x : Int32} : G d 244 278 ls [.int x] σ Q ↔ ybo x ∧ Q (.inl (some (.int x))) σ := gs_retb f_244_278 rfl
theorem f_244_279 : ft 244 279 = some (539, .iload 5, []) := rfl
theorem s_244_279 {d : Nat} {σ : xS} {st : List Value} {Q : xR → xS → Prop} {l0 l1 l2 l3 l4 l6 l7 l8 : Option Value} {x : Int32} : G d 244 279 [l0, l1, l2, l3, l4, some (.int x), l6, l7, l8] st σ Q ↔ G d 244 280 [l0, l1, l2, l3, l4, some (.int x), l6, l7, l8] (.int x :: st) σ Q := gs_go f_244_279 rfl
theorem f_244_280 : ft 244 280 = some (541, .ifCond .ne 15, [290]) := rfl
theorem s_244_280 {d : Nat} {σ : xS} {st : List Value} {Q : xR → xS → Prop} {l0 l1 l2 l3 l4 l5 l6 l7 l8 : Option Value} {x : Int32} : G d 244 280 [l0, l1, l2, l3, l4, l5, l6, l7, l8] (.int x :: st) σ Q ↔ if x ≠ 0 then G d 244 290 [l0, l1, l2, l3, l4, l5, l6, l7, l8] st σ Q else G d 244 281 [l0, l1, l2, l3, l4, l5, l6, l7, l8] st σ Q := gs_if f_244_280 rfl
theorem f_244_281 : ft 244 281 = some (544, .aload_n 3, []) := rfl
theorem s_244_281 {d : Nat} {σ : xS} {st : List Value} {Q : xR → xS → Prop} {l0 l1 l2 l4 l5 l6 l7 l8 : Option Value} {x : Nat} : G d 244 281 [l0, l1, l2, some (.ref x), l4, l5, l6, l7, l8] st σ Q ↔ G d 244 282 [l0, l1, l2, some (.ref x), l4, l5, l6, l7, l8] (.ref x :: st) σ Q := gs_go f_244_281 rfl
theorem f_244_282 : ft 244 282 = some (545, .iconst 0, []) := rfl
theorem s_244_282 {d : Nat} {σ : xS} {st : List Value} {Q : xR → xS → Prop} {l0 l1 l2 l3 l4 l5 l6 l7 l8 : Option Value} : G d 244 282 [l0, l1, l2, l3, l4, l5, l6, l7, l8] st σ Q ↔ G d 244 283 [l0, l1, l2, l3, l4, l5, l6, l7, l8] (.int (0) :: st) σ Q := gs_go f_244_282 rfl
theorem f_244_283 : ft 244 283 = some (546, .laload, []) := rfl
theorem s_244_283 {d : Nat} {t : yT} {st : List Value} {Q : xR → xS → Prop} {l0 l1 l2 l3 l4 l5 l6 l7 l8 : Option Value} {a : Nat} {x : Int32} (ha : yLA a) : G d 244 283 [l0, l1, l2, l3, l4, l5, l6, l7, l8] (.int x :: .ref a :: st) (yemb t) Q ↔ yix x (yn a) ∧ G d 244 284 [l0, l1, l2, l3, l4, l5, l6, l7, l8] (.long (t.L a x.toNatClampNeg) :: st) (yemb t) Q := gs_lald f_244_283 ha
theorem f_244_284 : ft 244 284 = some (547, .iload 6, []) := rfl
theorem s_244_284 {d : Nat} {σ : xS} {st : List Value} {Q : xR → xS → Prop} {l0 l1 l2 l3 l4 l5 l7 l8 : Option Value} {x : Int32} : G d 244 284 [l0, l1, l2, l3, l4, l5, some (.int x), l7, l8] st σ Q ↔ G d 244 285 [l0, l1, l2, l3, l4, l5, some (.int x), l7, l8] (.int x :: st) σ Q := gs_go f_244_284 rfl
theorem f_244_285 : ft 244 285 = some (549, .i2l, []) := rfl
theorem s_244_285 {d : Nat} {σ : xS} {st : List Value} {Q : xR → xS → Prop} {l0 l1 l2 l3 l4 l5 l6 l7 l8 : Option Value} {x : Int32} : G d 244 285 [l0, l1, l2, l3, l4, l5, l6, l7, l8] (.int x :: st) σ Q ↔ G d 244 286 [l0, l1, l2, l3, l4, l5, l6, l7, l8] (.long x.toInt64 :: st) σ Q := gs_go f_244_285 rfl
theorem f_244_286 : ft 244 286 = some (550, .lcmp, []) := rfl
theorem s_244_286 {d : Nat} {σ : xS} {st : List Value} {Q : xR → xS → Prop} {l0 l1 l2 l3 l4 l5 l6 l7 l8 : Option Value} {x y : Int64} : G d 244 286 [l0, l1, l2, l3, l4, l5, l6, l7, l8] (.long y :: .long x :: st) σ Q ↔ G d 244 287 [l0, l1, l2, l3, l4, l5, l6, l7, l8] (.int (lg_cmp x y) :: st) σ Q := gs_go f_244_286 rfl
theorem f_244_287 : ft 244 287 = some (551, .ifCond .eq 5, [290]) := rfl
theorem s_244_287 {d : Nat} {σ : xS} {st : List Value} {Q : xR → xS → Prop} {l0 l1 l2 l3 l4 l5 l6 l7 l8 : Option Value} {x : Int32} : G d 244 287 [l0, l1, l2, l3, l4, l5, l6, l7, l8] (.int x :: st) σ Q ↔ if x = 0 then G d 244 290 [l0, l1, l2, l3, l4, l5, l6, l7, l8] st σ Q else G d 244 288 [l0, l1, l2, l3, l4, l5, l6, l7, l8] st σ Q := gs_if f_244_287 rfl
theorem f_244_288 : ft 244 288 = some (554, .iconst 0, []) := rfl
theorem s_244_288 {d : Nat} {σ : xS} {st : List Value} {Q : xR → xS → Prop} {l0 l1 l2 l3 l4 l5 l6 l7 l8 : Option Value} : G d 244 288 [l0, l1, l2, l3, l4, l5, l6, l7, l8] st σ Q ↔ G d 244 289 [l0, l1, l2, l3, l4, l5, l6, l7, l8] (.int (0) :: st) σ Q := gs_go f_244_288 rfl
theorem f_244_289 : ft 244 289 = some (555, .ireturn, []) := rfl
theorem s_244_289 {d : Nat} {σ : xS} {ls : xL} {Q : xR → xS → Prop} {x : Int32} : G d 244 289 ls [.int x] σ Q ↔ ybo x ∧ Q (.inl (some (.int x))) σ := gs_retb f_244_289 rfl
theorem f_244_290 : ft 244 290 = some (556, .goto 930, [879]) := rfl
theorem s_244_290 {d : Nat} {σ : xS} {st : List Value} {Q : xR → xS → Prop} {l0 l1 l2 l3 l4 l5 l6 l7 l8 : Option Value} : G d 244 290 [l0, l1, l2, l3, l4, l5, l6, l7, l8] st σ Q ↔ G d 244 879 [l0, l1, l2, l3, l4, l5, l6, l7, l8] st σ Q := gs_go f_244_290 rfl
theorem f_244_291 : ft 244 291 = some (559, .aload_n 1, []) := rfl
theorem s_244_291 {d : Nat} {σ : xS} {st : List Value} {Q : xR → xS → Prop} {l0 l2 l3 l4 l5 l6 l7 l8 : Option Value} {x : Nat} : G d 244 291 [l0, some (.ref x), l2, l3, l4, l5, l6, l7, l8] st σ Q ↔ G d 244 292 [l0, some (.ref x), l2, l3, l4, l5, l6, l7, l8] (.ref x :: st) σ Q := gs_go f_244_291 rfl
theorem f_244_292 : ft 244 292 = some (560, .aload_n 0, []) := rfl
theorem s_244_292 {d : Nat} {σ : xS} {st : List Value} {Q : xR → xS → Prop} {l1 l2 l3 l4 l5 l6 l7 l8 : Option Value} {x : Nat} : G d 244 292 [some (.ref x), l1, l2, l3, l4, l5, l6, l7, l8] st σ Q ↔ G d 244 293 [some (.ref x), l1, l2, l3, l4, l5, l6, l7, l8] (.ref x :: st) σ Q := gs_go f_244_292 rfl
theorem f_244_293 : ft 244 293 = some (561, .iload 4, []) := rfl
theorem s_244_293 {d : Nat} {σ : xS} {st : List Value} {Q : xR → xS → Prop} {l0 l1 l2 l3 l5 l6 l7 l8 : Option Value} {x : Int32} : G d 244 293 [l0, l1, l2, l3, some (.int x), l5, l6, l7, l8] st σ Q ↔ G d 244 294 [l0, l1, l2, l3, some (.int x), l5, l6, l7, l8] (.int x :: st) σ Q := gs_go f_244_293 rfl
theorem f_244_294 : ft 244 294 = some (563, .iconst 1, []) := rfl
theorem s_244_294 {d : Nat} {σ : xS} {st : List Value} {Q : xR → xS → Prop} {l0 l1 l2 l3 l4 l5 l6 l7 l8 : Option Value} : G d 244 294 [l0, l1, l2, l3, l4, l5, l6, l7, l8] st σ Q ↔ G d 244 295 [l0, l1, l2, l3, l4, l5, l6, l7, l8] (.int (1) :: st) σ Q := gs_go f_244_294 rfl
theorem f_244_295 : ft 244 295 = some (564, .iadd, []) := rfl
theorem s_244_295 {d : Nat} {σ : xS} {st : List Value} {Q : xR → xS → Prop} {l0 l1 l2 l3 l4 l5 l6 l7 l8 : Option Value} {x y : Int32} : G d 244 295 [l0, l1, l2, l3, l4, l5, l6, l7, l8] (.int y :: .int x :: st) σ Q ↔ G d 244 296 [l0, l1, l2, l3, l4, l5, l6, l7, l8] (.int (x + y) :: st) σ Q := gs_go f_244_295 rfl
theorem f_244_296 : ft 244 296 = some (565, .iaload, []) := rfl
theorem s_244_296 {d : Nat} {t : yT} {st : List Value} {Q : xR → xS → Prop} {l0 l1 l2 l3 l4 l5 l6 l7 l8 : Option Value} {a : Nat} {x : Int32} (ha : yA 0 a) : G d 244 296 [l0, l1, l2, l3, l4, l5, l6, l7, l8] (.int x :: .ref a :: st) (yemb t) Q ↔ yix x (yn a) ∧ G d 244 297 [l0, l1, l2, l3, l4, l5, l6, l7, l8] (.int (t.A a x.toNatClampNeg) :: st) (yemb t) Q := gs_iald f_244_296 ha
theorem f_244_297 : ft 244 297 = some (566, .aload_n 3, []) := rfl
theorem s_244_297 {d : Nat} {σ : xS} {st : List Value} {Q : xR → xS → Prop} {l0 l1 l2 l4 l5 l6 l7 l8 : Option Value} {x : Nat} : G d 244 297 [l0, l1, l2, some (.ref x), l4, l5, l6, l7, l8] st σ Q ↔ G d 244 298 [l0, l1, l2, some (.ref x), l4, l5, l6, l7, l8] (.ref x :: st) σ Q := gs_go f_244_297 rfl
theorem f_244_298 : ft 244 298 = some (567, .invokestatic 116, [231, 3, 6, 1020]) := rfl
theorem s_244_298 {d : Nat} {σ : xS} {st : List Value} {Q : xR → xS → Prop} {l0 l1 l2 l3 l4 l5 l6 l7 l8 : Option Value} {a0 : Nat} {a1 : Int32} {a2 : Nat} : G (d + 1) 244 298 [l0, l1, l2, l3, l4, l5, l6, l7, l8] (.ref a2 :: .int a1 :: .ref a0 :: st) σ Q ↔ xcat st ≤ 8 ∧ Cl d 231 [.ref a0, .int a1, .ref a2] σ (Gk (d + 1) 244 298 [l0, l1, l2, l3, l4, l5, l6, l7, l8] st Q) := gs_call f_244_298 ((xinv_call (i := 298) (n := 1020) (ls := [l0, l1, l2, l3, l4, l5, l6, l7, l8]) (kind := 6) (σ := σ) (by decide)).trans (xcall_st [.ref a2, .int a1, .ref a0] rfl (by decide) (show (3 : Nat) ≤ 4 by decide)))
theorem f_244_299 : ft 244 299 = some (570, .istore 5, []) := rfl
theorem s_244_299 {d : Nat} {σ : xS} {st : List Value} {Q : xR → xS → Prop} {l0 l1 l2 l3 l4 l5 l6 l7 l8 : Option Value} {x : Int32} : G d 244 299 [l0, l1, l2, l3, l4, l5, l6, l7, l8] (.int x :: st) σ Q ↔ G d 244 300 [l0, l1, l2, l3, ykl l4, some (.int x), l6, l7, l8] st σ Q := by
  cases l4 with
  | none => exact gs_go f_244_299 rfl
  | some v => cases v <;> exact gs_go f_244_299 rfl
theorem f_244_300 : ft 244 300 = some (572, .aload_n 2, []) := rfl
theorem s_244_300 {d : Nat} {σ : xS} {st : List Value} {Q : xR → xS → Prop} {l0 l1 l3 l4 l5 l6 l7 l8 : Option Value} {x : Nat} : G d 244 300 [l0, l1, some (.ref x), l3, l4, l5, l6, l7, l8] st σ Q ↔ G d 244 301 [l0, l1, some (.ref x), l3, l4, l5, l6, l7, l8] (.ref x :: st) σ Q := gs_go f_244_300 rfl
theorem f_244_301 : ft 244 301 = some (573, .aload_n 0, []) := rfl
theorem s_244_301 {d : Nat} {σ : xS} {st : List Value} {Q : xR → xS → Prop} {l1 l2 l3 l4 l5 l6 l7 l8 : Option Value} {x : Nat} : G d 244 301 [some (.ref x), l1, l2, l3, l4, l5, l6, l7, l8] st σ Q ↔ G d 244 302 [some (.ref x), l1, l2, l3, l4, l5, l6, l7, l8] (.ref x :: st) σ Q := gs_go f_244_301 rfl
theorem f_244_302 : ft 244 302 = some (574, .iload 4, []) := rfl
theorem s_244_302 {d : Nat} {σ : xS} {st : List Value} {Q : xR → xS → Prop} {l0 l1 l2 l3 l5 l6 l7 l8 : Option Value} {x : Int32} : G d 244 302 [l0, l1, l2, l3, some (.int x), l5, l6, l7, l8] st σ Q ↔ G d 244 303 [l0, l1, l2, l3, some (.int x), l5, l6, l7, l8] (.int x :: st) σ Q := gs_go f_244_302 rfl
theorem f_244_303 : ft 244 303 = some (576, .iconst 1, []) := rfl
theorem s_244_303 {d : Nat} {σ : xS} {st : List Value} {Q : xR → xS → Prop} {l0 l1 l2 l3 l4 l5 l6 l7 l8 : Option Value} : G d 244 303 [l0, l1, l2, l3, l4, l5, l6, l7, l8] st σ Q ↔ G d 244 304 [l0, l1, l2, l3, l4, l5, l6, l7, l8] (.int (1) :: st) σ Q := gs_go f_244_303 rfl
theorem f_244_304 : ft 244 304 = some (577, .iadd, []) := rfl
theorem s_244_304 {d : Nat} {σ : xS} {st : List Value} {Q : xR → xS → Prop} {l0 l1 l2 l3 l4 l5 l6 l7 l8 : Option Value} {x y : Int32} : G d 244 304 [l0, l1, l2, l3, l4, l5, l6, l7, l8] (.int y :: .int x :: st) σ Q ↔ G d 244 305 [l0, l1, l2, l3, l4, l5, l6, l7, l8] (.int (x + y) :: st) σ Q := gs_go f_244_304 rfl
theorem f_244_305 : ft 244 305 = some (578, .iaload, []) := rfl
theorem s_244_305 {d : Nat} {t : yT} {st : List Value} {Q : xR → xS → Prop} {l0 l1 l2 l3 l4 l5 l6 l7 l8 : Option Value} {a : Nat} {x : Int32} (ha : yA 0 a) : G d 244 305 [l0, l1, l2, l3, l4, l5, l6, l7, l8] (.int x :: .ref a :: st) (yemb t) Q ↔ yix x (yn a) ∧ G d 244 306 [l0, l1, l2, l3, l4, l5, l6, l7, l8] (.int (t.A a x.toNatClampNeg) :: st) (yemb t) Q := gs_iald f_244_305 ha
theorem f_244_306 : ft 244 306 = some (579, .invokevirtual 118, [196, 2, 0, 1572]) := rfl
theorem s_244_306 {d : Nat} {t : yT} {st : List Value} {Q : xR → xS → Prop} {l0 l1 l2 l3 l4 l5 l6 l7 l8 : Option Value} {a0 : Nat} {a1 : Int32} (ho : yisO 8 a0) : G (d + 1) 244 306 [l0, l1, l2, l3, l4, l5, l6, l7, l8] (.int a1 :: .ref a0 :: st) (yemb t) Q ↔ xcat st ≤ 8 ∧ Cl d 196 [.ref a0, .int a1] (yemb t) (Gk (d + 1) 244 306 [l0, l1, l2, l3, l4, l5, l6, l7, l8] st Q) := gs_call f_244_306 ((xinv_call (i := 306) (n := 1572) (ls := [l0, l1, l2, l3, l4, l5, l6, l7, l8]) (kind := 0) (σ := yemb t) (by decide)).trans (xcall_vi [.int a1, .ref a0] rfl rfl (show (2 : Nat) ≤ 2 by decide) rfl ho))
theorem f_244_307 : ft 244 307 = some (582, .istore 6, []) := rfl
theorem s_244_307 {d : Nat} {σ : xS} {st : List Value} {Q : xR → xS → Prop} {l0 l1 l2 l3 l4 l5 l6 l7 l8 : Option Value} {x : Int32} : G d 244 307 [l0, l1, l2, l3, l4, l5, l6, l7, l8] (.int x :: st) σ Q ↔ G d 244 308 [l0, l1, l2, l3, l4, ykl l5, some (.int x), l7, l8] st σ Q := by
  cases l5 with
  | none => exact gs_go f_244_307 rfl
  | some v => cases v <;> exact gs_go f_244_307 rfl
theorem f_244_308 : ft 244 308 = some (584, .aload_n 2, []) := rfl
theorem s_244_308 {d : Nat} {σ : xS} {st : List Value} {Q : xR → xS → Prop} {l0 l1 l3 l4 l5 l6 l7 l8 : Option Value} {x : Nat} : G d 244 308 [l0, l1, some (.ref x), l3, l4, l5, l6, l7, l8] st σ Q ↔ G d 244 309 [l0, l1, some (.ref x), l3, l4, l5, l6, l7, l8] (.ref x :: st) σ Q := gs_go f_244_308 rfl
theorem f_244_309 : ft 244 309 = some (585, .invokevirtual 91, [123, 1, 0, 1277]) := rfl
theorem s_244_309 {d : Nat} {t : yT} {st : List Value} {Q : xR → xS → Prop} {l0 l1 l2 l3 l4 l5 l6 l7 l8 : Option Value} {a0 : Nat} (ho : yisO 8 a0) : G (d + 1) 244 309 [l0, l1, l2, l3, l4, l5, l6, l7, l8] (.ref a0 :: st) (yemb t) Q ↔ xcat st ≤ 8 ∧ Cl d 123 [.ref a0] (yemb t) (Gk (d + 1) 244 309 [l0, l1, l2, l3, l4, l5, l6, l7, l8] st Q) := gs_call f_244_309 ((xinv_call (i := 309) (n := 1277) (ls := [l0, l1, l2, l3, l4, l5, l6, l7, l8]) (kind := 0) (σ := yemb t) (by decide)).trans (xcall_vi [.ref a0] rfl rfl (show (1 : Nat) ≤ 1 by decide) rfl ho))
theorem f_244_310 : ft 244 310 = some (588, .iload 5, []) := rfl
theorem s_244_310 {d : Nat} {σ : xS} {st : List Value} {Q : xR → xS → Prop} {l0 l1 l2 l3 l4 l6 l7 l8 : Option Value} {x : Int32} : G d 244 310 [l0, l1, l2, l3, l4, some (.int x), l6, l7, l8] st σ Q ↔ G d 244 311 [l0, l1, l2, l3, l4, some (.int x), l6, l7, l8] (.int x :: st) σ Q := gs_go f_244_310 rfl
theorem f_244_311 : ft 244 311 = some (590, .if_icmp .eq 5, [314]) := rfl
theorem s_244_311 {d : Nat} {σ : xS} {st : List Value} {Q : xR → xS → Prop} {l0 l1 l2 l3 l4 l5 l6 l7 l8 : Option Value} {x y : Int32} : G d 244 311 [l0, l1, l2, l3, l4, l5, l6, l7, l8] (.int y :: .int x :: st) σ Q ↔ if x = y then G d 244 314 [l0, l1, l2, l3, l4, l5, l6, l7, l8] st σ Q else G d 244 312 [l0, l1, l2, l3, l4, l5, l6, l7, l8] st σ Q := gs_if f_244_311 rfl
theorem f_244_312 : ft 244 312 = some (593, .iconst 0, []) := rfl
theorem s_244_312 {d : Nat} {σ : xS} {st : List Value} {Q : xR → xS → Prop} {l0 l1 l2 l3 l4 l5 l6 l7 l8 : Option Value} : G d 244 312 [l0, l1, l2, l3, l4, l5, l6, l7, l8] st σ Q ↔ G d 244 313 [l0, l1, l2, l3, l4, l5, l6, l7, l8] (.int (0) :: st) σ Q := gs_go f_244_312 rfl
theorem f_244_313 : ft 244 313 = some (594, .ireturn, []) := rfl
theorem s_244_313 {d : Nat} {σ : xS} {ls : xL} {Q : xR → xS → Prop} {x : Int32} : G d 244 313 ls [.int x] σ Q ↔ ybo x ∧ Q (.inl (some (.int x))) σ := gs_retb f_244_313 rfl
theorem f_244_314 : ft 244 314 = some (595, .iload 5, []) := rfl
theorem s_244_314 {d : Nat} {σ : xS} {st : List Value} {Q : xR → xS → Prop} {l0 l1 l2 l3 l4 l6 l7 l8 : Option Value} {x : Int32} : G d 244 314 [l0, l1, l2, l3, l4, some (.int x), l6, l7, l8] st σ Q ↔ G d 244 315 [l0, l1, l2, l3, l4, some (.int x), l6, l7, l8] (.int x :: st) σ Q := gs_go f_244_314 rfl
theorem f_244_315 : ft 244 315 = some (597, .ifCond .ne 15, [325]) := rfl
theorem s_244_315 {d : Nat} {σ : xS} {st : List Value} {Q : xR → xS → Prop} {l0 l1 l2 l3 l4 l5 l6 l7 l8 : Option Value} {x : Int32} : G d 244 315 [l0, l1, l2, l3, l4, l5, l6, l7, l8] (.int x :: st) σ Q ↔ if x ≠ 0 then G d 244 325 [l0, l1, l2, l3, l4, l5, l6, l7, l8] st σ Q else G d 244 316 [l0, l1, l2, l3, l4, l5, l6, l7, l8] st σ Q := gs_if f_244_315 rfl
theorem f_244_316 : ft 244 316 = some (600, .aload_n 3, []) := rfl
theorem s_244_316 {d : Nat} {σ : xS} {st : List Value} {Q : xR → xS → Prop} {l0 l1 l2 l4 l5 l6 l7 l8 : Option Value} {x : Nat} : G d 244 316 [l0, l1, l2, some (.ref x), l4, l5, l6, l7, l8] st σ Q ↔ G d 244 317 [l0, l1, l2, some (.ref x), l4, l5, l6, l7, l8] (.ref x :: st) σ Q := gs_go f_244_316 rfl
theorem f_244_317 : ft 244 317 = some (601, .iconst 0, []) := rfl
theorem s_244_317 {d : Nat} {σ : xS} {st : List Value} {Q : xR → xS → Prop} {l0 l1 l2 l3 l4 l5 l6 l7 l8 : Option Value} : G d 244 317 [l0, l1, l2, l3, l4, l5, l6, l7, l8] st σ Q ↔ G d 244 318 [l0, l1, l2, l3, l4, l5, l6, l7, l8] (.int (0) :: st) σ Q := gs_go f_244_317 rfl
theorem f_244_318 : ft 244 318 = some (602, .laload, []) := rfl
theorem s_244_318 {d : Nat} {t : yT} {st : List Value} {Q : xR → xS → Prop} {l0 l1 l2 l3 l4 l5 l6 l7 l8 : Option Value} {a : Nat} {x : Int32} (ha : yLA a) : G d 244 318 [l0, l1, l2, l3, l4, l5, l6, l7, l8] (.int x :: .ref a :: st) (yemb t) Q ↔ yix x (yn a) ∧ G d 244 319 [l0, l1, l2, l3, l4, l5, l6, l7, l8] (.long (t.L a x.toNatClampNeg) :: st) (yemb t) Q := gs_lald f_244_318 ha
theorem f_244_319 : ft 244 319 = some (603, .iload 6, []) := rfl
theorem s_244_319 {d : Nat} {σ : xS} {st : List Value} {Q : xR → xS → Prop} {l0 l1 l2 l3 l4 l5 l7 l8 : Option Value} {x : Int32} : G d 244 319 [l0, l1, l2, l3, l4, l5, some (.int x), l7, l8] st σ Q ↔ G d 244 320 [l0, l1, l2, l3, l4, l5, some (.int x), l7, l8] (.int x :: st) σ Q := gs_go f_244_319 rfl
theorem f_244_320 : ft 244 320 = some (605, .i2l, []) := rfl
theorem s_244_320 {d : Nat} {σ : xS} {st : List Value} {Q : xR → xS → Prop} {l0 l1 l2 l3 l4 l5 l6 l7 l8 : Option Value} {x : Int32} : G d 244 320 [l0, l1, l2, l3, l4, l5, l6, l7, l8] (.int x :: st) σ Q ↔ G d 244 321 [l0, l1, l2, l3, l4, l5, l6, l7, l8] (.long x.toInt64 :: st) σ Q := gs_go f_244_320 rfl
theorem f_244_321 : ft 244 321 = some (606, .lcmp, []) := rfl
theorem s_244_321 {d : Nat} {σ : xS} {st : List Value} {Q : xR → xS → Prop} {l0 l1 l2 l3 l4 l5 l6 l7 l8 : Option Value} {x y : Int64} : G d 244 321 [l0, l1, l2, l3, l4, l5, l6, l7, l8] (.long y :: .long x :: st) σ Q ↔ G d 244 322 [l0, l1, l2, l3, l4, l5, l6, l7, l8] (.int (lg_cmp x y) :: st) σ Q := gs_go f_244_321 rfl
theorem f_244_322 : ft 244 322 = some (607, .ifCond .eq 5, [325]) := rfl
theorem s_244_322 {d : Nat} {σ : xS} {st : List Value} {Q : xR → xS → Prop} {l0 l1 l2 l3 l4 l5 l6 l7 l8 : Option Value} {x : Int32} : G d 244 322 [l0, l1, l2, l3, l4, l5, l6, l7, l8] (.int x :: st) σ Q ↔ if x = 0 then G d 244 325 [l0, l1, l2, l3, l4, l5, l6, l7, l8] st σ Q else G d 244 323 [l0, l1, l2, l3, l4, l5, l6, l7, l8] st σ Q := gs_if f_244_322 rfl
theorem f_244_323 : ft 244 323 = some (610, .iconst 0, []) := rfl
theorem s_244_323 {d : Nat} {σ : xS} {st : List Value} {Q : xR → xS → Prop} {l0 l1 l2 l3 l4 l5 l6 l7 l8 : Option Value} : G d 244 323 [l0, l1, l2, l3, l4, l5, l6, l7, l8] st σ Q ↔ G d 244 324 [l0, l1, l2, l3, l4, l5, l6, l7, l8] (.int (0) :: st) σ Q := gs_go f_244_323 rfl
theorem f_244_324 : ft 244 324 = some (611, .ireturn, []) := rfl
theorem s_244_324 {d : Nat} {σ : xS} {ls : xL} {Q : xR → xS → Prop} {x : Int32} : G d 244 324 ls [.int x] σ Q ↔ ybo x ∧ Q (.inl (some (.int x))) σ := gs_retb f_244_324 rfl
theorem f_244_325 : ft 244 325 = some (612, .goto 874, [879]) := rfl
theorem s_244_325 {d : Nat} {σ : xS} {st : List Value} {Q : xR → xS → Prop} {l0 l1 l2 l3 l4 l5 l6 l7 l8 : Option Value} : G d 244 325 [l0, l1, l2, l3, l4, l5, l6, l7, l8] st σ Q ↔ G d 244 879 [l0, l1, l2, l3, l4, l5, l6, l7, l8] st σ Q := gs_go f_244_325 rfl
theorem f_244_326 : ft 244 326 = some (615, .aload_n 1, []) := rfl
theorem s_244_326 {d : Nat} {σ : xS} {st : List Value} {Q : xR → xS → Prop} {l0 l2 l3 l4 l5 l6 l7 l8 : Option Value} {x : Nat} : G d 244 326 [l0, some (.ref x), l2, l3, l4, l5, l6, l7, l8] st σ Q ↔ G d 244 327 [l0, some (.ref x), l2, l3, l4, l5, l6, l7, l8] (.ref x :: st) σ Q := gs_go f_244_326 rfl
theorem f_244_327 : ft 244 327 = some (616, .aload_n 0, []) := rfl
theorem s_244_327 {d : Nat} {σ : xS} {st : List Value} {Q : xR → xS → Prop} {l1 l2 l3 l4 l5 l6 l7 l8 : Option Value} {x : Nat} : G d 244 327 [some (.ref x), l1, l2, l3, l4, l5, l6, l7, l8] st σ Q ↔ G d 244 328 [some (.ref x), l1, l2, l3, l4, l5, l6, l7, l8] (.ref x :: st) σ Q := gs_go f_244_327 rfl
theorem f_244_328 : ft 244 328 = some (617, .iload 4, []) := rfl
theorem s_244_328 {d : Nat} {σ : xS} {st : List Value} {Q : xR → xS → Prop} {l0 l1 l2 l3 l5 l6 l7 l8 : Option Value} {x : Int32} : G d 244 328 [l0, l1, l2, l3, some (.int x), l5, l6, l7, l8] st σ Q ↔ G d 244 329 [l0, l1, l2, l3, some (.int x), l5, l6, l7, l8] (.int x :: st) σ Q := gs_go f_244_328 rfl
theorem f_244_329 : ft 244 329 = some (619, .iconst 1, []) := rfl
theorem s_244_329 {d : Nat} {σ : xS} {st : List Value} {Q : xR → xS → Prop} {l0 l1 l2 l3 l4 l5 l6 l7 l8 : Option Value} : G d 244 329 [l0, l1, l2, l3, l4, l5, l6, l7, l8] st σ Q ↔ G d 244 330 [l0, l1, l2, l3, l4, l5, l6, l7, l8] (.int (1) :: st) σ Q := gs_go f_244_329 rfl
theorem f_244_330 : ft 244 330 = some (620, .iadd, []) := rfl
theorem s_244_330 {d : Nat} {σ : xS} {st : List Value} {Q : xR → xS → Prop} {l0 l1 l2 l3 l4 l5 l6 l7 l8 : Option Value} {x y : Int32} : G d 244 330 [l0, l1, l2, l3, l4, l5, l6, l7, l8] (.int y :: .int x :: st) σ Q ↔ G d 244 331 [l0, l1, l2, l3, l4, l5, l6, l7, l8] (.int (x + y) :: st) σ Q := gs_go f_244_330 rfl
theorem f_244_331 : ft 244 331 = some (621, .iaload, []) := rfl
theorem s_244_331 {d : Nat} {t : yT} {st : List Value} {Q : xR → xS → Prop} {l0 l1 l2 l3 l4 l5 l6 l7 l8 : Option Value} {a : Nat} {x : Int32} (ha : yA 0 a) : G d 244 331 [l0, l1, l2, l3, l4, l5, l6, l7, l8] (.int x :: .ref a :: st) (yemb t) Q ↔ yix x (yn a) ∧ G d 244 332 [l0, l1, l2, l3, l4, l5, l6, l7, l8] (.int (t.A a x.toNatClampNeg) :: st) (yemb t) Q := gs_iald f_244_331 ha
theorem f_244_332 : ft 244 332 = some (622, .aload_n 3, []) := rfl
theorem s_244_332 {d : Nat} {σ : xS} {st : List Value} {Q : xR → xS → Prop} {l0 l1 l2 l4 l5 l6 l7 l8 : Option Value} {x : Nat} : G d 244 332 [l0, l1, l2, some (.ref x), l4, l5, l6, l7, l8] st σ Q ↔ G d 244 333 [l0, l1, l2, some (.ref x), l4, l5, l6, l7, l8] (.ref x :: st) σ Q := gs_go f_244_332 rfl
theorem f_244_333 : ft 244 333 = some (623, .invokestatic 119, [232, 3, 6, 1035]) := rfl
theorem s_244_333 {d : Nat} {σ : xS} {st : List Value} {Q : xR → xS → Prop} {l0 l1 l2 l3 l4 l5 l6 l7 l8 : Option Value} {a0 : Nat} {a1 : Int32} {a2 : Nat} : G (d + 1) 244 333 [l0, l1, l2, l3, l4, l5, l6, l7, l8] (.ref a2 :: .int a1 :: .ref a0 :: st) σ Q ↔ xcat st ≤ 8 ∧ Cl d 232 [.ref a0, .int a1, .ref a2] σ (Gk (d + 1) 244 333 [l0, l1, l2, l3, l4, l5, l6, l7, l8] st Q) := gs_call f_244_333 ((xinv_call (i := 333) (n := 1035) (ls := [l0, l1, l2, l3, l4, l5, l6, l7, l8]) (kind := 6) (σ := σ) (by decide)).trans (xcall_st [.ref a2, .int a1, .ref a0] rfl (by decide) (show (3 : Nat) ≤ 4 by decide)))
theorem f_244_334 : ft 244 334 = some (626, .istore 5, []) := rfl
theorem s_244_334 {d : Nat} {σ : xS} {st : List Value} {Q : xR → xS → Prop} {l0 l1 l2 l3 l4 l5 l6 l7 l8 : Option Value} {x : Int32} : G d 244 334 [l0, l1, l2, l3, l4, l5, l6, l7, l8] (.int x :: st) σ Q ↔ G d 244 335 [l0, l1, l2, l3, ykl l4, some (.int x), l6, l7, l8] st σ Q := by
  cases l4 with
  | none => exact gs_go f_244_334 rfl
  | some v => cases v <;> exact gs_go f_244_334 rfl
theorem f_244_335 : ft 244 335 = some (628, .aload_n 2, []) := rfl
theorem s_244_335 {d : Nat} {σ : xS} {st : List Value} {Q : xR → xS → Prop} {l0 l1 l3 l4 l5 l6 l7 l8 : Option Value} {x : Nat} : G d 244 335 [l0, l1, some (.ref x), l3, l4, l5, l6, l7, l8] st σ Q ↔ G d 244 336 [l0, l1, some (.ref x), l3, l4, l5, l6, l7, l8] (.ref x :: st) σ Q := gs_go f_244_335 rfl
theorem f_244_336 : ft 244 336 = some (629, .aload_n 0, []) := rfl
theorem s_244_336 {d : Nat} {σ : xS} {st : List Value} {Q : xR → xS → Prop} {l1 l2 l3 l4 l5 l6 l7 l8 : Option Value} {x : Nat} : G d 244 336 [some (.ref x), l1, l2, l3, l4, l5, l6, l7, l8] st σ Q ↔ G d 244 337 [some (.ref x), l1, l2, l3, l4, l5, l6, l7, l8] (.ref x :: st) σ Q := gs_go f_244_336 rfl
theorem f_244_337 : ft 244 337 = some (630, .iload 4, []) := rfl
theorem s_244_337 {d : Nat} {σ : xS} {st : List Value} {Q : xR → xS → Prop} {l0 l1 l2 l3 l5 l6 l7 l8 : Option Value} {x : Int32} : G d 244 337 [l0, l1, l2, l3, some (.int x), l5, l6, l7, l8] st σ Q ↔ G d 244 338 [l0, l1, l2, l3, some (.int x), l5, l6, l7, l8] (.int x :: st) σ Q := gs_go f_244_337 rfl
theorem f_244_338 : ft 244 338 = some (632, .iconst 1, []) := rfl
theorem s_244_338 {d : Nat} {σ : xS} {st : List Value} {Q : xR → xS → Prop} {l0 l1 l2 l3 l4 l5 l6 l7 l8 : Option Value} : G d 244 338 [l0, l1, l2, l3, l4, l5, l6, l7, l8] st σ Q ↔ G d 244 339 [l0, l1, l2, l3, l4, l5, l6, l7, l8] (.int (1) :: st) σ Q := gs_go f_244_338 rfl
theorem f_244_339 : ft 244 339 = some (633, .iadd, []) := rfl
theorem s_244_339 {d : Nat} {σ : xS} {st : List Value} {Q : xR → xS → Prop} {l0 l1 l2 l3 l4 l5 l6 l7 l8 : Option Value} {x y : Int32} : G d 244 339 [l0, l1, l2, l3, l4, l5, l6, l7, l8] (.int y :: .int x :: st) σ Q ↔ G d 244 340 [l0, l1, l2, l3, l4, l5, l6, l7, l8] (.int (x + y) :: st) σ Q := gs_go f_244_339 rfl
theorem f_244_340 : ft 244 340 = some (634, .iaload, []) := rfl
theorem s_244_340 {d : Nat} {t : yT} {st : List Value} {Q : xR → xS → Prop} {l0 l1 l2 l3 l4 l5 l6 l7 l8 : Option Value} {a : Nat} {x : Int32} (ha : yA 0 a) : G d 244 340 [l0, l1, l2, l3, l4, l5, l6, l7, l8] (.int x :: .ref a :: st) (yemb t) Q ↔ yix x (yn a) ∧ G d 244 341 [l0, l1, l2, l3, l4, l5, l6, l7, l8] (.int (t.A a x.toNatClampNeg) :: st) (yemb t) Q := gs_iald f_244_340 ha
theorem f_244_341 : ft 244 341 = some (635, .invokevirtual 121, [197, 2, 0, 1580]) := rfl
theorem s_244_341 {d : Nat} {t : yT} {st : List Value} {Q : xR → xS → Prop} {l0 l1 l2 l3 l4 l5 l6 l7 l8 : Option Value} {a0 : Nat} {a1 : Int32} (ho : yisO 8 a0) : G (d + 1) 244 341 [l0, l1, l2, l3, l4, l5, l6, l7, l8] (.int a1 :: .ref a0 :: st) (yemb t) Q ↔ xcat st ≤ 8 ∧ Cl d 197 [.ref a0, .int a1] (yemb t) (Gk (d + 1) 244 341 [l0, l1, l2, l3, l4, l5, l6, l7, l8] st Q) := gs_call f_244_341 ((xinv_call (i := 341) (n := 1580) (ls := [l0, l1, l2, l3, l4, l5, l6, l7, l8]) (kind := 0) (σ := yemb t) (by decide)).trans (xcall_vi [.int a1, .ref a0] rfl rfl (show (2 : Nat) ≤ 3 by decide) rfl ho))
theorem f_244_342 : ft 244 342 = some (638, .istore 6, []) := rfl
theorem s_244_342 {d : Nat} {σ : xS} {st : List Value} {Q : xR → xS → Prop} {l0 l1 l2 l3 l4 l5 l6 l7 l8 : Option Value} {x : Int32} : G d 244 342 [l0, l1, l2, l3, l4, l5, l6, l7, l8] (.int x :: st) σ Q ↔ G d 244 343 [l0, l1, l2, l3, l4, ykl l5, some (.int x), l7, l8] st σ Q := by
  cases l5 with
  | none => exact gs_go f_244_342 rfl
  | some v => cases v <;> exact gs_go f_244_342 rfl
theorem f_244_343 : ft 244 343 = some (640, .aload_n 2, []) := rfl
theorem s_244_343 {d : Nat} {σ : xS} {st : List Value} {Q : xR → xS → Prop} {l0 l1 l3 l4 l5 l6 l7 l8 : Option Value} {x : Nat} : G d 244 343 [l0, l1, some (.ref x), l3, l4, l5, l6, l7, l8] st σ Q ↔ G d 244 344 [l0, l1, some (.ref x), l3, l4, l5, l6, l7, l8] (.ref x :: st) σ Q := gs_go f_244_343 rfl
theorem f_244_344 : ft 244 344 = some (641, .invokevirtual 91, [123, 1, 0, 1277]) := rfl
theorem s_244_344 {d : Nat} {t : yT} {st : List Value} {Q : xR → xS → Prop} {l0 l1 l2 l3 l4 l5 l6 l7 l8 : Option Value} {a0 : Nat} (ho : yisO 8 a0) : G (d + 1) 244 344 [l0, l1, l2, l3, l4, l5, l6, l7, l8] (.ref a0 :: st) (yemb t) Q ↔ xcat st ≤ 8 ∧ Cl d 123 [.ref a0] (yemb t) (Gk (d + 1) 244 344 [l0, l1, l2, l3, l4, l5, l6, l7, l8] st Q) := gs_call f_244_344 ((xinv_call (i := 344) (n := 1277) (ls := [l0, l1, l2, l3, l4, l5, l6, l7, l8]) (kind := 0) (σ := yemb t) (by decide)).trans (xcall_vi [.ref a0] rfl rfl (show (1 : Nat) ≤ 1 by decide) rfl ho))
theorem f_244_345 : ft 244 345 = some (644, .iload 5, []) := rfl
theorem s_244_345 {d : Nat} {σ : xS} {st : List Value} {Q : xR → xS → Prop} {l0 l1 l2 l3 l4 l6 l7 l8 : Option Value} {x : Int32} : G d 244 345 [l0, l1, l2, l3, l4, some (.int x), l6, l7, l8] st σ Q ↔ G d 244 346 [l0, l1, l2, l3, l4, some (.int x), l6, l7, l8] (.int x :: st) σ Q := gs_go f_244_345 rfl
theorem f_244_346 : ft 244 346 = some (646, .if_icmp .eq 5, [349]) := rfl
theorem s_244_346 {d : Nat} {σ : xS} {st : List Value} {Q : xR → xS → Prop} {l0 l1 l2 l3 l4 l5 l6 l7 l8 : Option Value} {x y : Int32} : G d 244 346 [l0, l1, l2, l3, l4, l5, l6, l7, l8] (.int y :: .int x :: st) σ Q ↔ if x = y then G d 244 349 [l0, l1, l2, l3, l4, l5, l6, l7, l8] st σ Q else G d 244 347 [l0, l1, l2, l3, l4, l5, l6, l7, l8] st σ Q := gs_if f_244_346 rfl
theorem f_244_347 : ft 244 347 = some (649, .iconst 0, []) := rfl
theorem s_244_347 {d : Nat} {σ : xS} {st : List Value} {Q : xR → xS → Prop} {l0 l1 l2 l3 l4 l5 l6 l7 l8 : Option Value} : G d 244 347 [l0, l1, l2, l3, l4, l5, l6, l7, l8] st σ Q ↔ G d 244 348 [l0, l1, l2, l3, l4, l5, l6, l7, l8] (.int (0) :: st) σ Q := gs_go f_244_347 rfl
theorem f_244_348 : ft 244 348 = some (650, .ireturn, []) := rfl
theorem s_244_348 {d : Nat} {σ : xS} {ls : xL} {Q : xR → xS → Prop} {x : Int32} : G d 244 348 ls [.int x] σ Q ↔ ybo x ∧ Q (.inl (some (.int x))) σ := gs_retb f_244_348 rfl
theorem f_244_349 : ft 244 349 = some (651, .iload 5, []) := rfl
theorem s_244_349 {d : Nat} {σ : xS} {st : List Value} {Q : xR → xS → Prop} {l0 l1 l2 l3 l4 l6 l7 l8 : Option Value} {x : Int32} : G d 244 349 [l0, l1, l2, l3, l4, some (.int x), l6, l7, l8] st σ Q ↔ G d 244 350 [l0, l1, l2, l3, l4, some (.int x), l6, l7, l8] (.int x :: st) σ Q := gs_go f_244_349 rfl
theorem f_244_350 : ft 244 350 = some (653, .ifCond .ne 15, [360]) := rfl
theorem s_244_350 {d : Nat} {σ : xS} {st : List Value} {Q : xR → xS → Prop} {l0 l1 l2 l3 l4 l5 l6 l7 l8 : Option Value} {x : Int32} : G d 244 350 [l0, l1, l2, l3, l4, l5, l6, l7, l8] (.int x :: st) σ Q ↔ if x ≠ 0 then G d 244 360 [l0, l1, l2, l3, l4, l5, l6, l7, l8] st σ Q else G d 244 351 [l0, l1, l2, l3, l4, l5, l6, l7, l8] st σ Q := gs_if f_244_350 rfl
theorem f_244_351 : ft 244 351 = some (656, .aload_n 3, []) := rfl
theorem s_244_351 {d : Nat} {σ : xS} {st : List Value} {Q : xR → xS → Prop} {l0 l1 l2 l4 l5 l6 l7 l8 : Option Value} {x : Nat} : G d 244 351 [l0, l1, l2, some (.ref x), l4, l5, l6, l7, l8] st σ Q ↔ G d 244 352 [l0, l1, l2, some (.ref x), l4, l5, l6, l7, l8] (.ref x :: st) σ Q := gs_go f_244_351 rfl
theorem f_244_352 : ft 244 352 = some (657, .iconst 0, []) := rfl
theorem s_244_352 {d : Nat} {σ : xS} {st : List Value} {Q : xR → xS → Prop} {l0 l1 l2 l3 l4 l5 l6 l7 l8 : Option Value} : G d 244 352 [l0, l1, l2, l3, l4, l5, l6, l7, l8] st σ Q ↔ G d 244 353 [l0, l1, l2, l3, l4, l5, l6, l7, l8] (.int (0) :: st) σ Q := gs_go f_244_352 rfl
theorem f_244_353 : ft 244 353 = some (658, .laload, []) := rfl
theorem s_244_353 {d : Nat} {t : yT} {st : List Value} {Q : xR → xS → Prop} {l0 l1 l2 l3 l4 l5 l6 l7 l8 : Option Value} {a : Nat} {x : Int32} (ha : yLA a) : G d 244 353 [l0, l1, l2, l3, l4, l5, l6, l7, l8] (.int x :: .ref a :: st) (yemb t) Q ↔ yix x (yn a) ∧ G d 244 354 [l0, l1, l2, l3, l4, l5, l6, l7, l8] (.long (t.L a x.toNatClampNeg) :: st) (yemb t) Q := gs_lald f_244_353 ha
theorem f_244_354 : ft 244 354 = some (659, .iload 6, []) := rfl
theorem s_244_354 {d : Nat} {σ : xS} {st : List Value} {Q : xR → xS → Prop} {l0 l1 l2 l3 l4 l5 l7 l8 : Option Value} {x : Int32} : G d 244 354 [l0, l1, l2, l3, l4, l5, some (.int x), l7, l8] st σ Q ↔ G d 244 355 [l0, l1, l2, l3, l4, l5, some (.int x), l7, l8] (.int x :: st) σ Q := gs_go f_244_354 rfl
theorem f_244_355 : ft 244 355 = some (661, .i2l, []) := rfl
theorem s_244_355 {d : Nat} {σ : xS} {st : List Value} {Q : xR → xS → Prop} {l0 l1 l2 l3 l4 l5 l6 l7 l8 : Option Value} {x : Int32} : G d 244 355 [l0, l1, l2, l3, l4, l5, l6, l7, l8] (.int x :: st) σ Q ↔ G d 244 356 [l0, l1, l2, l3, l4, l5, l6, l7, l8] (.long x.toInt64 :: st) σ Q := gs_go f_244_355 rfl
theorem f_244_356 : ft 244 356 = some (662, .lcmp, []) := rfl
theorem s_244_356 {d : Nat} {σ : xS} {st : List Value} {Q : xR → xS → Prop} {l0 l1 l2 l3 l4 l5 l6 l7 l8 : Option Value} {x y : Int64} : G d 244 356 [l0, l1, l2, l3, l4, l5, l6, l7, l8] (.long y :: .long x :: st) σ Q ↔ G d 244 357 [l0, l1, l2, l3, l4, l5, l6, l7, l8] (.int (lg_cmp x y) :: st) σ Q := gs_go f_244_356 rfl
theorem f_244_357 : ft 244 357 = some (663, .ifCond .eq 5, [360]) := rfl
theorem s_244_357 {d : Nat} {σ : xS} {st : List Value} {Q : xR → xS → Prop} {l0 l1 l2 l3 l4 l5 l6 l7 l8 : Option Value} {x : Int32} : G d 244 357 [l0, l1, l2, l3, l4, l5, l6, l7, l8] (.int x :: st) σ Q ↔ if x = 0 then G d 244 360 [l0, l1, l2, l3, l4, l5, l6, l7, l8] st σ Q else G d 244 358 [l0, l1, l2, l3, l4, l5, l6, l7, l8] st σ Q := gs_if f_244_357 rfl
theorem f_244_358 : ft 244 358 = some (666, .iconst 0, []) := rfl
theorem s_244_358 {d : Nat} {σ : xS} {st : List Value} {Q : xR → xS → Prop} {l0 l1 l2 l3 l4 l5 l6 l7 l8 : Option Value} : G d 244 358 [l0, l1, l2, l3, l4, l5, l6, l7, l8] st σ Q ↔ G d 244 359 [l0, l1, l2, l3, l4, l5, l6, l7, l8] (.int (0) :: st) σ Q := gs_go f_244_358 rfl
theorem f_244_359 : ft 244 359 = some (667, .ireturn, []) := rfl
theorem s_244_359 {d : Nat} {σ : xS} {ls : xL} {Q : xR → xS → Prop} {x : Int32} : G d 244 359 ls [.int x] σ Q ↔ ybo x ∧ Q (.inl (some (.int x))) σ := gs_retb f_244_359 rfl
theorem f_244_360 : ft 244 360 = some (668, .goto 818, [879]) := rfl
theorem s_244_360 {d : Nat} {σ : xS} {st : List Value} {Q : xR → xS → Prop} {l0 l1 l2 l3 l4 l5 l6 l7 l8 : Option Value} : G d 244 360 [l0, l1, l2, l3, l4, l5, l6, l7, l8] st σ Q ↔ G d 244 879 [l0, l1, l2, l3, l4, l5, l6, l7, l8] st σ Q := gs_go f_244_360 rfl
theorem f_244_361 : ft 244 361 = some (671, .aload_n 1, []) := rfl
theorem s_244_361 {d : Nat} {σ : xS} {st : List Value} {Q : xR → xS → Prop} {l0 l2 l3 l4 l5 l6 l7 l8 : Option Value} {x : Nat} : G d 244 361 [l0, some (.ref x), l2, l3, l4, l5, l6, l7, l8] st σ Q ↔ G d 244 362 [l0, some (.ref x), l2, l3, l4, l5, l6, l7, l8] (.ref x :: st) σ Q := gs_go f_244_361 rfl
theorem f_244_362 : ft 244 362 = some (672, .aload_n 0, []) := rfl
theorem s_244_362 {d : Nat} {σ : xS} {st : List Value} {Q : xR → xS → Prop} {l1 l2 l3 l4 l5 l6 l7 l8 : Option Value} {x : Nat} : G d 244 362 [some (.ref x), l1, l2, l3, l4, l5, l6, l7, l8] st σ Q ↔ G d 244 363 [some (.ref x), l1, l2, l3, l4, l5, l6, l7, l8] (.ref x :: st) σ Q := gs_go f_244_362 rfl
theorem f_244_363 : ft 244 363 = some (673, .iload 4, []) := rfl
theorem s_244_363 {d : Nat} {σ : xS} {st : List Value} {Q : xR → xS → Prop} {l0 l1 l2 l3 l5 l6 l7 l8 : Option Value} {x : Int32} : G d 244 363 [l0, l1, l2, l3, some (.int x), l5, l6, l7, l8] st σ Q ↔ G d 244 364 [l0, l1, l2, l3, some (.int x), l5, l6, l7, l8] (.int x :: st) σ Q := gs_go f_244_363 rfl
theorem f_244_364 : ft 244 364 = some (675, .iconst 1, []) := rfl
theorem s_244_364 {d : Nat} {σ : xS} {st : List Value} {Q : xR → xS → Prop} {l0 l1 l2 l3 l4 l5 l6 l7 l8 : Option Value} : G d 244 364 [l0, l1, l2, l3, l4, l5, l6, l7, l8] st σ Q ↔ G d 244 365 [l0, l1, l2, l3, l4, l5, l6, l7, l8] (.int (1) :: st) σ Q := gs_go f_244_364 rfl
theorem f_244_365 : ft 244 365 = some (676, .iadd, []) := rfl
theorem s_244_365 {d : Nat} {σ : xS} {st : List Value} {Q : xR → xS → Prop} {l0 l1 l2 l3 l4 l5 l6 l7 l8 : Option Value} {x y : Int32} : G d 244 365 [l0, l1, l2, l3, l4, l5, l6, l7, l8] (.int y :: .int x :: st) σ Q ↔ G d 244 366 [l0, l1, l2, l3, l4, l5, l6, l7, l8] (.int (x + y) :: st) σ Q := gs_go f_244_365 rfl
theorem f_244_366 : ft 244 366 = some (677, .iaload, []) := rfl
theorem s_244_366 {d : Nat} {t : yT} {st : List Value} {Q : xR → xS → Prop} {l0 l1 l2 l3 l4 l5 l6 l7 l8 : Option Value} {a : Nat} {x : Int32} (ha : yA 0 a) : G d 244 366 [l0, l1, l2, l3, l4, l5, l6, l7, l8] (.int x :: .ref a :: st) (yemb t) Q ↔ yix x (yn a) ∧ G d 244 367 [l0, l1, l2, l3, l4, l5, l6, l7, l8] (.int (t.A a x.toNatClampNeg) :: st) (yemb t) Q := gs_iald f_244_366 ha
theorem f_244_367 : ft 244 367 = some (678, .aload_n 3, []) := rfl
theorem s_244_367 {d : Nat} {σ : xS} {st : List Value} {Q : xR → xS → Prop} {l0 l1 l2 l4 l5 l6 l7 l8 : Option Value} {x : Nat} : G d 244 367 [l0, l1, l2, some (.ref x), l4, l5, l6, l7, l8] st σ Q ↔ G d 244 368 [l0, l1, l2, some (.ref x), l4, l5, l6, l7, l8] (.ref x :: st) σ Q := gs_go f_244_367 rfl
theorem f_244_368 : ft 244 368 = some (679, .invokestatic 122, [233, 3, 6, 1043]) := rfl
theorem s_244_368 {d : Nat} {σ : xS} {st : List Value} {Q : xR → xS → Prop} {l0 l1 l2 l3 l4 l5 l6 l7 l8 : Option Value} {a0 : Nat} {a1 : Int32} {a2 : Nat} : G (d + 1) 244 368 [l0, l1, l2, l3, l4, l5, l6, l7, l8] (.ref a2 :: .int a1 :: .ref a0 :: st) σ Q ↔ xcat st ≤ 8 ∧ Cl d 233 [.ref a0, .int a1, .ref a2] σ (Gk (d + 1) 244 368 [l0, l1, l2, l3, l4, l5, l6, l7, l8] st Q) := gs_call f_244_368 ((xinv_call (i := 368) (n := 1043) (ls := [l0, l1, l2, l3, l4, l5, l6, l7, l8]) (kind := 6) (σ := σ) (by decide)).trans (xcall_st [.ref a2, .int a1, .ref a0] rfl (by decide) (show (3 : Nat) ≤ 4 by decide)))
theorem f_244_369 : ft 244 369 = some (682, .istore 5, []) := rfl
theorem s_244_369 {d : Nat} {σ : xS} {st : List Value} {Q : xR → xS → Prop} {l0 l1 l2 l3 l4 l5 l6 l7 l8 : Option Value} {x : Int32} : G d 244 369 [l0, l1, l2, l3, l4, l5, l6, l7, l8] (.int x :: st) σ Q ↔ G d 244 370 [l0, l1, l2, l3, ykl l4, some (.int x), l6, l7, l8] st σ Q := by
  cases l4 with
  | none => exact gs_go f_244_369 rfl
  | some v => cases v <;> exact gs_go f_244_369 rfl
theorem f_244_370 : ft 244 370 = some (684, .aload_n 2, []) := rfl
theorem s_244_370 {d : Nat} {σ : xS} {st : List Value} {Q : xR → xS → Prop} {l0 l1 l3 l4 l5 l6 l7 l8 : Option Value} {x : Nat} : G d 244 370 [l0, l1, some (.ref x), l3, l4, l5, l6, l7, l8] st σ Q ↔ G d 244 371 [l0, l1, some (.ref x), l3, l4, l5, l6, l7, l8] (.ref x :: st) σ Q := gs_go f_244_370 rfl
theorem f_244_371 : ft 244 371 = some (685, .aload_n 0, []) := rfl
theorem s_244_371 {d : Nat} {σ : xS} {st : List Value} {Q : xR → xS → Prop} {l1 l2 l3 l4 l5 l6 l7 l8 : Option Value} {x : Nat} : G d 244 371 [some (.ref x), l1, l2, l3, l4, l5, l6, l7, l8] st σ Q ↔ G d 244 372 [some (.ref x), l1, l2, l3, l4, l5, l6, l7, l8] (.ref x :: st) σ Q := gs_go f_244_371 rfl
theorem f_244_372 : ft 244 372 = some (686, .iload 4, []) := rfl
theorem s_244_372 {d : Nat} {σ : xS} {st : List Value} {Q : xR → xS → Prop} {l0 l1 l2 l3 l5 l6 l7 l8 : Option Value} {x : Int32} : G d 244 372 [l0, l1, l2, l3, some (.int x), l5, l6, l7, l8] st σ Q ↔ G d 244 373 [l0, l1, l2, l3, some (.int x), l5, l6, l7, l8] (.int x :: st) σ Q := gs_go f_244_372 rfl
theorem f_244_373 : ft 244 373 = some (688, .iconst 1, []) := rfl
theorem s_244_373 {d : Nat} {σ : xS} {st : List Value} {Q : xR → xS → Prop} {l0 l1 l2 l3 l4 l5 l6 l7 l8 : Option Value} : G d 244 373 [l0, l1, l2, l3, l4, l5, l6, l7, l8] st σ Q ↔ G d 244 374 [l0, l1, l2, l3, l4, l5, l6, l7, l8] (.int (1) :: st) σ Q := gs_go f_244_373 rfl
theorem f_244_374 : ft 244 374 = some (689, .iadd, []) := rfl
theorem s_244_374 {d : Nat} {σ : xS} {st : List Value} {Q : xR → xS → Prop} {l0 l1 l2 l3 l4 l5 l6 l7 l8 : Option Value} {x y : Int32} : G d 244 374 [l0, l1, l2, l3, l4, l5, l6, l7, l8] (.int y :: .int x :: st) σ Q ↔ G d 244 375 [l0, l1, l2, l3, l4, l5, l6, l7, l8] (.int (x + y) :: st) σ Q := gs_go f_244_374 rfl
theorem f_244_375 : ft 244 375 = some (690, .iaload, []) := rfl
theorem s_244_375 {d : Nat} {t : yT} {st : List Value} {Q : xR → xS → Prop} {l0 l1 l2 l3 l4 l5 l6 l7 l8 : Option Value} {a : Nat} {x : Int32} (ha : yA 0 a) : G d 244 375 [l0, l1, l2, l3, l4, l5, l6, l7, l8] (.int x :: .ref a :: st) (yemb t) Q ↔ yix x (yn a) ∧ G d 244 376 [l0, l1, l2, l3, l4, l5, l6, l7, l8] (.int (t.A a x.toNatClampNeg) :: st) (yemb t) Q := gs_iald f_244_375 ha
theorem f_244_376 : ft 244 376 = some (691, .invokevirtual 124, [198, 2, 0, 1584]) := rfl
theorem s_244_376 {d : Nat} {t : yT} {st : List Value} {Q : xR → xS → Prop} {l0 l1 l2 l3 l4 l5 l6 l7 l8 : Option Value} {a0 : Nat} {a1 : Int32} (ho : yisO 8 a0) : G (d + 1) 244 376 [l0, l1, l2, l3, l4, l5, l6, l7, l8] (.int a1 :: .ref a0 :: st) (yemb t) Q ↔ xcat st ≤ 8 ∧ Cl d 198 [.ref a0, .int a1] (yemb t) (Gk (d + 1) 244 376 [l0, l1, l2, l3, l4, l5, l6, l7, l8] st Q) := gs_call f_244_376 ((xinv_call (i := 376) (n := 1584) (ls := [l0, l1, l2, l3, l4, l5, l6, l7, l8]) (kind := 0) (σ := yemb t) (by decide)).trans (xcall_vi [.int a1, .ref a0] rfl rfl (show (2 : Nat) ≤ 3 by decide) rfl ho))
theorem f_244_377 : ft 244 377 = some (694, .istore 6, []) := rfl
theorem s_244_377 {d : Nat} {σ : xS} {st : List Value} {Q : xR → xS → Prop} {l0 l1 l2 l3 l4 l5 l6 l7 l8 : Option Value} {x : Int32} : G d 244 377 [l0, l1, l2, l3, l4, l5, l6, l7, l8] (.int x :: st) σ Q ↔ G d 244 378 [l0, l1, l2, l3, l4, ykl l5, some (.int x), l7, l8] st σ Q := by
  cases l5 with
  | none => exact gs_go f_244_377 rfl
  | some v => cases v <;> exact gs_go f_244_377 rfl
theorem f_244_378 : ft 244 378 = some (696, .aload_n 2, []) := rfl
theorem s_244_378 {d : Nat} {σ : xS} {st : List Value} {Q : xR → xS → Prop} {l0 l1 l3 l4 l5 l6 l7 l8 : Option Value} {x : Nat} : G d 244 378 [l0, l1, some (.ref x), l3, l4, l5, l6, l7, l8] st σ Q ↔ G d 244 379 [l0, l1, some (.ref x), l3, l4, l5, l6, l7, l8] (.ref x :: st) σ Q := gs_go f_244_378 rfl
theorem f_244_379 : ft 244 379 = some (697, .invokevirtual 91, [123, 1, 0, 1277]) := rfl
theorem s_244_379 {d : Nat} {t : yT} {st : List Value} {Q : xR → xS → Prop} {l0 l1 l2 l3 l4 l5 l6 l7 l8 : Option Value} {a0 : Nat} (ho : yisO 8 a0) : G (d + 1) 244 379 [l0, l1, l2, l3, l4, l5, l6, l7, l8] (.ref a0 :: st) (yemb t) Q ↔ xcat st ≤ 8 ∧ Cl d 123 [.ref a0] (yemb t) (Gk (d + 1) 244 379 [l0, l1, l2, l3, l4, l5, l6, l7, l8] st Q) := gs_call f_244_379 ((xinv_call (i := 379) (n := 1277) (ls := [l0, l1, l2, l3, l4, l5, l6, l7, l8]) (kind := 0) (σ := yemb t) (by decide)).trans (xcall_vi [.ref a0] rfl rfl (show (1 : Nat) ≤ 1 by decide) rfl ho))
theorem f_244_380 : ft 244 380 = some (700, .iload 5, []) := rfl
theorem s_244_380 {d : Nat} {σ : xS} {st : List Value} {Q : xR → xS → Prop} {l0 l1 l2 l3 l4 l6 l7 l8 : Option Value} {x : Int32} : G d 244 380 [l0, l1, l2, l3, l4, some (.int x), l6, l7, l8] st σ Q ↔ G d 244 381 [l0, l1, l2, l3, l4, some (.int x), l6, l7, l8] (.int x :: st) σ Q := gs_go f_244_380 rfl
theorem f_244_381 : ft 244 381 = some (702, .if_icmp .eq 5, [384]) := rfl
theorem s_244_381 {d : Nat} {σ : xS} {st : List Value} {Q : xR → xS → Prop} {l0 l1 l2 l3 l4 l5 l6 l7 l8 : Option Value} {x y : Int32} : G d 244 381 [l0, l1, l2, l3, l4, l5, l6, l7, l8] (.int y :: .int x :: st) σ Q ↔ if x = y then G d 244 384 [l0, l1, l2, l3, l4, l5, l6, l7, l8] st σ Q else G d 244 382 [l0, l1, l2, l3, l4, l5, l6, l7, l8] st σ Q := gs_if f_244_381 rfl
theorem f_244_382 : ft 244 382 = some (705, .iconst 0, []) := rfl
theorem s_244_382 {d : Nat} {σ : xS} {st : List Value} {Q : xR → xS → Prop} {l0 l1 l2 l3 l4 l5 l6 l7 l8 : Option Value} : G d 244 382 [l0, l1, l2, l3, l4, l5, l6, l7, l8] st σ Q ↔ G d 244 383 [l0, l1, l2, l3, l4, l5, l6, l7, l8] (.int (0) :: st) σ Q := gs_go f_244_382 rfl
theorem f_244_383 : ft 244 383 = some (706, .ireturn, []) := rfl
theorem s_244_383 {d : Nat} {σ : xS} {ls : xL} {Q : xR → xS → Prop} {x : Int32} : G d 244 383 ls [.int x] σ Q ↔ ybo x ∧ Q (.inl (some (.int x))) σ := gs_retb f_244_383 rfl
theorem f_244_384 : ft 244 384 = some (707, .iload 5, []) := rfl
theorem s_244_384 {d : Nat} {σ : xS} {st : List Value} {Q : xR → xS → Prop} {l0 l1 l2 l3 l4 l6 l7 l8 : Option Value} {x : Int32} : G d 244 384 [l0, l1, l2, l3, l4, some (.int x), l6, l7, l8] st σ Q ↔ G d 244 385 [l0, l1, l2, l3, l4, some (.int x), l6, l7, l8] (.int x :: st) σ Q := gs_go f_244_384 rfl
theorem f_244_385 : ft 244 385 = some (709, .ifCond .ne 15, [395]) := rfl
theorem s_244_385 {d : Nat} {σ : xS} {st : List Value} {Q : xR → xS → Prop} {l0 l1 l2 l3 l4 l5 l6 l7 l8 : Option Value} {x : Int32} : G d 244 385 [l0, l1, l2, l3, l4, l5, l6, l7, l8] (.int x :: st) σ Q ↔ if x ≠ 0 then G d 244 395 [l0, l1, l2, l3, l4, l5, l6, l7, l8] st σ Q else G d 244 386 [l0, l1, l2, l3, l4, l5, l6, l7, l8] st σ Q := gs_if f_244_385 rfl
theorem f_244_386 : ft 244 386 = some (712, .aload_n 3, []) := rfl
theorem s_244_386 {d : Nat} {σ : xS} {st : List Value} {Q : xR → xS → Prop} {l0 l1 l2 l4 l5 l6 l7 l8 : Option Value} {x : Nat} : G d 244 386 [l0, l1, l2, some (.ref x), l4, l5, l6, l7, l8] st σ Q ↔ G d 244 387 [l0, l1, l2, some (.ref x), l4, l5, l6, l7, l8] (.ref x :: st) σ Q := gs_go f_244_386 rfl
theorem f_244_387 : ft 244 387 = some (713, .iconst 0, []) := rfl
theorem s_244_387 {d : Nat} {σ : xS} {st : List Value} {Q : xR → xS → Prop} {l0 l1 l2 l3 l4 l5 l6 l7 l8 : Option Value} : G d 244 387 [l0, l1, l2, l3, l4, l5, l6, l7, l8] st σ Q ↔ G d 244 388 [l0, l1, l2, l3, l4, l5, l6, l7, l8] (.int (0) :: st) σ Q := gs_go f_244_387 rfl
theorem f_244_388 : ft 244 388 = some (714, .laload, []) := rfl
theorem s_244_388 {d : Nat} {t : yT} {st : List Value} {Q : xR → xS → Prop} {l0 l1 l2 l3 l4 l5 l6 l7 l8 : Option Value} {a : Nat} {x : Int32} (ha : yLA a) : G d 244 388 [l0, l1, l2, l3, l4, l5, l6, l7, l8] (.int x :: .ref a :: st) (yemb t) Q ↔ yix x (yn a) ∧ G d 244 389 [l0, l1, l2, l3, l4, l5, l6, l7, l8] (.long (t.L a x.toNatClampNeg) :: st) (yemb t) Q := gs_lald f_244_388 ha
theorem f_244_389 : ft 244 389 = some (715, .iload 6, []) := rfl
theorem s_244_389 {d : Nat} {σ : xS} {st : List Value} {Q : xR → xS → Prop} {l0 l1 l2 l3 l4 l5 l7 l8 : Option Value} {x : Int32} : G d 244 389 [l0, l1, l2, l3, l4, l5, some (.int x), l7, l8] st σ Q ↔ G d 244 390 [l0, l1, l2, l3, l4, l5, some (.int x), l7, l8] (.int x :: st) σ Q := gs_go f_244_389 rfl
theorem f_244_390 : ft 244 390 = some (717, .i2l, []) := rfl
theorem s_244_390 {d : Nat} {σ : xS} {st : List Value} {Q : xR → xS → Prop} {l0 l1 l2 l3 l4 l5 l6 l7 l8 : Option Value} {x : Int32} : G d 244 390 [l0, l1, l2, l3, l4, l5, l6, l7, l8] (.int x :: st) σ Q ↔ G d 244 391 [l0, l1, l2, l3, l4, l5, l6, l7, l8] (.long x.toInt64 :: st) σ Q := gs_go f_244_390 rfl
theorem f_244_391 : ft 244 391 = some (718, .lcmp, []) := rfl
theorem s_244_391 {d : Nat} {σ : xS} {st : List Value} {Q : xR → xS → Prop} {l0 l1 l2 l3 l4 l5 l6 l7 l8 : Option Value} {x y : Int64} : G d 244 391 [l0, l1, l2, l3, l4, l5, l6, l7, l8] (.long y :: .long x :: st) σ Q ↔ G d 244 392 [l0, l1, l2, l3, l4, l5, l6, l7, l8] (.int (lg_cmp x y) :: st) σ Q := gs_go f_244_391 rfl
theorem f_244_392 : ft 244 392 = some (719, .ifCond .eq 5, [395]) := rfl
theorem s_244_392 {d : Nat} {σ : xS} {st : List Value} {Q : xR → xS → Prop} {l0 l1 l2 l3 l4 l5 l6 l7 l8 : Option Value} {x : Int32} : G d 244 392 [l0, l1, l2, l3, l4, l5, l6, l7, l8] (.int x :: st) σ Q ↔ if x = 0 then G d 244 395 [l0, l1, l2, l3, l4, l5, l6, l7, l8] st σ Q else G d 244 393 [l0, l1, l2, l3, l4, l5, l6, l7, l8] st σ Q := gs_if f_244_392 rfl
theorem f_244_393 : ft 244 393 = some (722, .iconst 0, []) := rfl
theorem s_244_393 {d : Nat} {σ : xS} {st : List Value} {Q : xR → xS → Prop} {l0 l1 l2 l3 l4 l5 l6 l7 l8 : Option Value} : G d 244 393 [l0, l1, l2, l3, l4, l5, l6, l7, l8] st σ Q ↔ G d 244 394 [l0, l1, l2, l3, l4, l5, l6, l7, l8] (.int (0) :: st) σ Q := gs_go f_244_393 rfl
theorem f_244_394 : ft 244 394 = some (723, .ireturn, []) := rfl
theorem s_244_394 {d : Nat} {σ : xS} {ls : xL} {Q : xR → xS → Prop} {x : Int32} : G d 244 394 ls [.int x] σ Q ↔ ybo x ∧ Q (.inl (some (.int x))) σ := gs_retb f_244_394 rfl
theorem f_244_395 : ft 244 395 = some (724, .goto 762, [879]) := rfl
theorem s_244_395 {d : Nat} {σ : xS} {st : List Value} {Q : xR → xS → Prop} {l0 l1 l2 l3 l4 l5 l6 l7 l8 : Option Value} : G d 244 395 [l0, l1, l2, l3, l4, l5, l6, l7, l8] st σ Q ↔ G d 244 879 [l0, l1, l2, l3, l4, l5, l6, l7, l8] st σ Q := gs_go f_244_395 rfl
theorem f_244_396 : ft 244 396 = some (727, .aload_n 1, []) := rfl
theorem s_244_396 {d : Nat} {σ : xS} {st : List Value} {Q : xR → xS → Prop} {l0 l2 l3 l4 l5 l6 l7 l8 : Option Value} {x : Nat} : G d 244 396 [l0, some (.ref x), l2, l3, l4, l5, l6, l7, l8] st σ Q ↔ G d 244 397 [l0, some (.ref x), l2, l3, l4, l5, l6, l7, l8] (.ref x :: st) σ Q := gs_go f_244_396 rfl
theorem f_244_397 : ft 244 397 = some (728, .aload_n 0, []) := rfl
theorem s_244_397 {d : Nat} {σ : xS} {st : List Value} {Q : xR → xS → Prop} {l1 l2 l3 l4 l5 l6 l7 l8 : Option Value} {x : Nat} : G d 244 397 [some (.ref x), l1, l2, l3, l4, l5, l6, l7, l8] st σ Q ↔ G d 244 398 [some (.ref x), l1, l2, l3, l4, l5, l6, l7, l8] (.ref x :: st) σ Q := gs_go f_244_397 rfl
theorem f_244_398 : ft 244 398 = some (729, .iload 4, []) := rfl
theorem s_244_398 {d : Nat} {σ : xS} {st : List Value} {Q : xR → xS → Prop} {l0 l1 l2 l3 l5 l6 l7 l8 : Option Value} {x : Int32} : G d 244 398 [l0, l1, l2, l3, some (.int x), l5, l6, l7, l8] st σ Q ↔ G d 244 399 [l0, l1, l2, l3, some (.int x), l5, l6, l7, l8] (.int x :: st) σ Q := gs_go f_244_398 rfl
theorem f_244_399 : ft 244 399 = some (731, .iconst 1, []) := rfl
theorem s_244_399 {d : Nat} {σ : xS} {st : List Value} {Q : xR → xS → Prop} {l0 l1 l2 l3 l4 l5 l6 l7 l8 : Option Value} : G d 244 399 [l0, l1, l2, l3, l4, l5, l6, l7, l8] st σ Q ↔ G d 244 400 [l0, l1, l2, l3, l4, l5, l6, l7, l8] (.int (1) :: st) σ Q := gs_go f_244_399 rfl
theorem f_244_400 : ft 244 400 = some (732, .iadd, []) := rfl
theorem s_244_400 {d : Nat} {σ : xS} {st : List Value} {Q : xR → xS → Prop} {l0 l1 l2 l3 l4 l5 l6 l7 l8 : Option Value} {x y : Int32} : G d 244 400 [l0, l1, l2, l3, l4, l5, l6, l7, l8] (.int y :: .int x :: st) σ Q ↔ G d 244 401 [l0, l1, l2, l3, l4, l5, l6, l7, l8] (.int (x + y) :: st) σ Q := gs_go f_244_400 rfl
theorem f_244_401 : ft 244 401 = some (733, .iaload, []) := rfl
theorem s_244_401 {d : Nat} {t : yT} {st : List Value} {Q : xR → xS → Prop} {l0 l1 l2 l3 l4 l5 l6 l7 l8 : Option Value} {a : Nat} {x : Int32} (ha : yA 0 a) : G d 244 401 [l0, l1, l2, l3, l4, l5, l6, l7, l8] (.int x :: .ref a :: st) (yemb t) Q ↔ yix x (yn a) ∧ G d 244 402 [l0, l1, l2, l3, l4, l5, l6, l7, l8] (.int (t.A a x.toNatClampNeg) :: st) (yemb t) Q := gs_iald f_244_401 ha
theorem f_244_402 : ft 244 402 = some (734, .aload_n 3, []) := rfl
theorem s_244_402 {d : Nat} {σ : xS} {st : List Value} {Q : xR → xS → Prop} {l0 l1 l2 l4 l5 l6 l7 l8 : Option Value} {x : Nat} : G d 244 402 [l0, l1, l2, some (.ref x), l4, l5, l6, l7, l8] st σ Q ↔ G d 244 403 [l0, l1, l2, some (.ref x), l4, l5, l6, l7, l8] (.ref x :: st) σ Q := gs_go f_244_402 rfl
theorem f_244_403 : ft 244 403 = some (735, .invokestatic 125, [234, 3, 6, 1052]) := rfl
theorem s_244_403 {d : Nat} {σ : xS} {st : List Value} {Q : xR → xS → Prop} {l0 l1 l2 l3 l4 l5 l6 l7 l8 : Option Value} {a0 : Nat} {a1 : Int32} {a2 : Nat} : G (d + 1) 244 403 [l0, l1, l2, l3, l4, l5, l6, l7, l8] (.ref a2 :: .int a1 :: .ref a0 :: st) σ Q ↔ xcat st ≤ 8 ∧ Cl d 234 [.ref a0, .int a1, .ref a2] σ (Gk (d + 1) 244 403 [l0, l1, l2, l3, l4, l5, l6, l7, l8] st Q) := gs_call f_244_403 ((xinv_call (i := 403) (n := 1052) (ls := [l0, l1, l2, l3, l4, l5, l6, l7, l8]) (kind := 6) (σ := σ) (by decide)).trans (xcall_st [.ref a2, .int a1, .ref a0] rfl (by decide) (show (3 : Nat) ≤ 4 by decide)))
theorem f_244_404 : ft 244 404 = some (738, .istore 5, []) := rfl
theorem s_244_404 {d : Nat} {σ : xS} {st : List Value} {Q : xR → xS → Prop} {l0 l1 l2 l3 l4 l5 l6 l7 l8 : Option Value} {x : Int32} : G d 244 404 [l0, l1, l2, l3, l4, l5, l6, l7, l8] (.int x :: st) σ Q ↔ G d 244 405 [l0, l1, l2, l3, ykl l4, some (.int x), l6, l7, l8] st σ Q := by
  cases l4 with
  | none => exact gs_go f_244_404 rfl
  | some v => cases v <;> exact gs_go f_244_404 rfl
theorem f_244_405 : ft 244 405 = some (740, .aload_n 2, []) := rfl
theorem s_244_405 {d : Nat} {σ : xS} {st : List Value} {Q : xR → xS → Prop} {l0 l1 l3 l4 l5 l6 l7 l8 : Option Value} {x : Nat} : G d 244 405 [l0, l1, some (.ref x), l3, l4, l5, l6, l7, l8] st σ Q ↔ G d 244 406 [l0, l1, some (.ref x), l3, l4, l5, l6, l7, l8] (.ref x :: st) σ Q := gs_go f_244_405 rfl
theorem f_244_406 : ft 244 406 = some (741, .aload_n 0, []) := rfl
theorem s_244_406 {d : Nat} {σ : xS} {st : List Value} {Q : xR → xS → Prop} {l1 l2 l3 l4 l5 l6 l7 l8 : Option Value} {x : Nat} : G d 244 406 [some (.ref x), l1, l2, l3, l4, l5, l6, l7, l8] st σ Q ↔ G d 244 407 [some (.ref x), l1, l2, l3, l4, l5, l6, l7, l8] (.ref x :: st) σ Q := gs_go f_244_406 rfl
theorem f_244_407 : ft 244 407 = some (742, .iload 4, []) := rfl
theorem s_244_407 {d : Nat} {σ : xS} {st : List Value} {Q : xR → xS → Prop} {l0 l1 l2 l3 l5 l6 l7 l8 : Option Value} {x : Int32} : G d 244 407 [l0, l1, l2, l3, some (.int x), l5, l6, l7, l8] st σ Q ↔ G d 244 408 [l0, l1, l2, l3, some (.int x), l5, l6, l7, l8] (.int x :: st) σ Q := gs_go f_244_407 rfl
theorem f_244_408 : ft 244 408 = some (744, .iconst 1, []) := rfl
theorem s_244_408 {d : Nat} {σ : xS} {st : List Value} {Q : xR → xS → Prop} {l0 l1 l2 l3 l4 l5 l6 l7 l8 : Option Value} : G d 244 408 [l0, l1, l2, l3, l4, l5, l6, l7, l8] st σ Q ↔ G d 244 409 [l0, l1, l2, l3, l4, l5, l6, l7, l8] (.int (1) :: st) σ Q := gs_go f_244_408 rfl
theorem f_244_409 : ft 244 409 = some (745, .iadd, []) := rfl
theorem s_244_409 {d : Nat} {σ : xS} {st : List Value} {Q : xR → xS → Prop} {l0 l1 l2 l3 l4 l5 l6 l7 l8 : Option Value} {x y : Int32} : G d 244 409 [l0, l1, l2, l3, l4, l5, l6, l7, l8] (.int y :: .int x :: st) σ Q ↔ G d 244 410 [l0, l1, l2, l3, l4, l5, l6, l7, l8] (.int (x + y) :: st) σ Q := gs_go f_244_409 rfl
theorem f_244_410 : ft 244 410 = some (746, .iaload, []) := rfl
theorem s_244_410 {d : Nat} {t : yT} {st : List Value} {Q : xR → xS → Prop} {l0 l1 l2 l3 l4 l5 l6 l7 l8 : Option Value} {a : Nat} {x : Int32} (ha : yA 0 a) : G d 244 410 [l0, l1, l2, l3, l4, l5, l6, l7, l8] (.int x :: .ref a :: st) (yemb t) Q ↔ yix x (yn a) ∧ G d 244 411 [l0, l1, l2, l3, l4, l5, l6, l7, l8] (.int (t.A a x.toNatClampNeg) :: st) (yemb t) Q := gs_iald f_244_410 ha
theorem f_244_411 : ft 244 411 = some (747, .invokevirtual 127, [199, 2, 0, 1588]) := rfl
theorem s_244_411 {d : Nat} {t : yT} {st : List Value} {Q : xR → xS → Prop} {l0 l1 l2 l3 l4 l5 l6 l7 l8 : Option Value} {a0 : Nat} {a1 : Int32} (ho : yisO 8 a0) : G (d + 1) 244 411 [l0, l1, l2, l3, l4, l5, l6, l7, l8] (.int a1 :: .ref a0 :: st) (yemb t) Q ↔ xcat st ≤ 8 ∧ Cl d 199 [.ref a0, .int a1] (yemb t) (Gk (d + 1) 244 411 [l0, l1, l2, l3, l4, l5, l6, l7, l8] st Q) := gs_call f_244_411 ((xinv_call (i := 411) (n := 1588) (ls := [l0, l1, l2, l3, l4, l5, l6, l7, l8]) (kind := 0) (σ := yemb t) (by decide)).trans (xcall_vi [.int a1, .ref a0] rfl rfl (show (2 : Nat) ≤ 12 by decide) rfl ho))
theorem f_244_412 : ft 244 412 = some (750, .lstore 6, []) := rfl
theorem s_244_412 {d : Nat} {σ : xS} {st : List Value} {Q : xR → xS → Prop} {l0 l1 l2 l3 l4 l5 l6 l7 l8 : Option Value} {x : Int64} : G d 244 412 [l0, l1, l2, l3, l4, l5, l6, l7, l8] (.long x :: st) σ Q ↔ G d 244 413 [l0, l1, l2, l3, l4, ykl l5, some (.long x), none, l8] st σ Q := by
  cases l5 with
  | none => exact gs_go f_244_412 rfl
  | some v => cases v <;> exact gs_go f_244_412 rfl
theorem f_244_413 : ft 244 413 = some (752, .aload_n 2, []) := rfl
theorem s_244_413 {d : Nat} {σ : xS} {st : List Value} {Q : xR → xS → Prop} {l0 l1 l3 l4 l5 l6 l7 l8 : Option Value} {x : Nat} : G d 244 413 [l0, l1, some (.ref x), l3, l4, l5, l6, l7, l8] st σ Q ↔ G d 244 414 [l0, l1, some (.ref x), l3, l4, l5, l6, l7, l8] (.ref x :: st) σ Q := gs_go f_244_413 rfl
theorem f_244_414 : ft 244 414 = some (753, .invokevirtual 91, [123, 1, 0, 1277]) := rfl
theorem s_244_414 {d : Nat} {t : yT} {st : List Value} {Q : xR → xS → Prop} {l0 l1 l2 l3 l4 l5 l6 l7 l8 : Option Value} {a0 : Nat} (ho : yisO 8 a0) : G (d + 1) 244 414 [l0, l1, l2, l3, l4, l5, l6, l7, l8] (.ref a0 :: st) (yemb t) Q ↔ xcat st ≤ 8 ∧ Cl d 123 [.ref a0] (yemb t) (Gk (d + 1) 244 414 [l0, l1, l2, l3, l4, l5, l6, l7, l8] st Q) := gs_call f_244_414 ((xinv_call (i := 414) (n := 1277) (ls := [l0, l1, l2, l3, l4, l5, l6, l7, l8]) (kind := 0) (σ := yemb t) (by decide)).trans (xcall_vi [.ref a0] rfl rfl (show (1 : Nat) ≤ 1 by decide) rfl ho))
theorem f_244_415 : ft 244 415 = some (756, .iload 5, []) := rfl
theorem s_244_415 {d : Nat} {σ : xS} {st : List Value} {Q : xR → xS → Prop} {l0 l1 l2 l3 l4 l6 l7 l8 : Option Value} {x : Int32} : G d 244 415 [l0, l1, l2, l3, l4, some (.int x), l6, l7, l8] st σ Q ↔ G d 244 416 [l0, l1, l2, l3, l4, some (.int x), l6, l7, l8] (.int x :: st) σ Q := gs_go f_244_415 rfl
theorem f_244_416 : ft 244 416 = some (758, .if_icmp .eq 5, [419]) := rfl
theorem s_244_416 {d : Nat} {σ : xS} {st : List Value} {Q : xR → xS → Prop} {l0 l1 l2 l3 l4 l5 l6 l7 l8 : Option Value} {x y : Int32} : G d 244 416 [l0, l1, l2, l3, l4, l5, l6, l7, l8] (.int y :: .int x :: st) σ Q ↔ if x = y then G d 244 419 [l0, l1, l2, l3, l4, l5, l6, l7, l8] st σ Q else G d 244 417 [l0, l1, l2, l3, l4, l5, l6, l7, l8] st σ Q := gs_if f_244_416 rfl
theorem f_244_417 : ft 244 417 = some (761, .iconst 0, []) := rfl
theorem s_244_417 {d : Nat} {σ : xS} {st : List Value} {Q : xR → xS → Prop} {l0 l1 l2 l3 l4 l5 l6 l7 l8 : Option Value} : G d 244 417 [l0, l1, l2, l3, l4, l5, l6, l7, l8] st σ Q ↔ G d 244 418 [l0, l1, l2, l3, l4, l5, l6, l7, l8] (.int (0) :: st) σ Q := gs_go f_244_417 rfl
theorem f_244_418 : ft 244 418 = some (762, .ireturn, []) := rfl
theorem s_244_418 {d : Nat} {σ : xS} {ls : xL} {Q : xR → xS → Prop} {x : Int32} : G d 244 418 ls [.int x] σ Q ↔ ybo x ∧ Q (.inl (some (.int x))) σ := gs_retb f_244_418 rfl
theorem f_244_419 : ft 244 419 = some (763, .iload 5, []) := rfl
theorem s_244_419 {d : Nat} {σ : xS} {st : List Value} {Q : xR → xS → Prop} {l0 l1 l2 l3 l4 l6 l7 l8 : Option Value} {x : Int32} : G d 244 419 [l0, l1, l2, l3, l4, some (.int x), l6, l7, l8] st σ Q ↔ G d 244 420 [l0, l1, l2, l3, l4, some (.int x), l6, l7, l8] (.int x :: st) σ Q := gs_go f_244_419 rfl
theorem f_244_420 : ft 244 420 = some (765, .ifCond .ne 14, [429]) := rfl
theorem s_244_420 {d : Nat} {σ : xS} {st : List Value} {Q : xR → xS → Prop} {l0 l1 l2 l3 l4 l5 l6 l7 l8 : Option Value} {x : Int32} : G d 244 420 [l0, l1, l2, l3, l4, l5, l6, l7, l8] (.int x :: st) σ Q ↔ if x ≠ 0 then G d 244 429 [l0, l1, l2, l3, l4, l5, l6, l7, l8] st σ Q else G d 244 421 [l0, l1, l2, l3, l4, l5, l6, l7, l8] st σ Q := gs_if f_244_420 rfl
theorem f_244_421 : ft 244 421 = some (768, .aload_n 3, []) := rfl
theorem s_244_421 {d : Nat} {σ : xS} {st : List Value} {Q : xR → xS → Prop} {l0 l1 l2 l4 l5 l6 l7 l8 : Option Value} {x : Nat} : G d 244 421 [l0, l1, l2, some (.ref x), l4, l5, l6, l7, l8] st σ Q ↔ G d 244 422 [l0, l1, l2, some (.ref x), l4, l5, l6, l7, l8] (.ref x :: st) σ Q := gs_go f_244_421 rfl
theorem f_244_422 : ft 244 422 = some (769, .iconst 0, []) := rfl
theorem s_244_422 {d : Nat} {σ : xS} {st : List Value} {Q : xR → xS → Prop} {l0 l1 l2 l3 l4 l5 l6 l7 l8 : Option Value} : G d 244 422 [l0, l1, l2, l3, l4, l5, l6, l7, l8] st σ Q ↔ G d 244 423 [l0, l1, l2, l3, l4, l5, l6, l7, l8] (.int (0) :: st) σ Q := gs_go f_244_422 rfl
theorem f_244_423 : ft 244 423 = some (770, .laload, []) := rfl
theorem s_244_423 {d : Nat} {t : yT} {st : List Value} {Q : xR → xS → Prop} {l0 l1 l2 l3 l4 l5 l6 l7 l8 : Option Value} {a : Nat} {x : Int32} (ha : yLA a) : G d 244 423 [l0, l1, l2, l3, l4, l5, l6, l7, l8] (.int x :: .ref a :: st) (yemb t) Q ↔ yix x (yn a) ∧ G d 244 424 [l0, l1, l2, l3, l4, l5, l6, l7, l8] (.long (t.L a x.toNatClampNeg) :: st) (yemb t) Q := gs_lald f_244_423 ha
theorem f_244_424 : ft 244 424 = some (771, .lload 6, []) := rfl
theorem s_244_424 {d : Nat} {σ : xS} {st : List Value} {Q : xR → xS → Prop} {l0 l1 l2 l3 l4 l5 l7 l8 : Option Value} {x : Int64} : G d 244 424 [l0, l1, l2, l3, l4, l5, some (.long x), l7, l8] st σ Q ↔ G d 244 425 [l0, l1, l2, l3, l4, l5, some (.long x), l7, l8] (.long x :: st) σ Q := gs_go f_244_424 rfl
theorem f_244_425 : ft 244 425 = some (773, .lcmp, []) := rfl
theorem s_244_425 {d : Nat} {σ : xS} {st : List Value} {Q : xR → xS → Prop} {l0 l1 l2 l3 l4 l5 l6 l7 l8 : Option Value} {x y : Int64} : G d 244 425 [l0, l1, l2, l3, l4, l5, l6, l7, l8] (.long y :: .long x :: st) σ Q ↔ G d 244 426 [l0, l1, l2, l3, l4, l5, l6, l7, l8] (.int (lg_cmp x y) :: st) σ Q := gs_go f_244_425 rfl
theorem f_244_426 : ft 244 426 = some (774, .ifCond .eq 5, [429]) := rfl
theorem s_244_426 {d : Nat} {σ : xS} {st : List Value} {Q : xR → xS → Prop} {l0 l1 l2 l3 l4 l5 l6 l7 l8 : Option Value} {x : Int32} : G d 244 426 [l0, l1, l2, l3, l4, l5, l6, l7, l8] (.int x :: st) σ Q ↔ if x = 0 then G d 244 429 [l0, l1, l2, l3, l4, l5, l6, l7, l8] st σ Q else G d 244 427 [l0, l1, l2, l3, l4, l5, l6, l7, l8] st σ Q := gs_if f_244_426 rfl
theorem f_244_427 : ft 244 427 = some (777, .iconst 0, []) := rfl
theorem s_244_427 {d : Nat} {σ : xS} {st : List Value} {Q : xR → xS → Prop} {l0 l1 l2 l3 l4 l5 l6 l7 l8 : Option Value} : G d 244 427 [l0, l1, l2, l3, l4, l5, l6, l7, l8] st σ Q ↔ G d 244 428 [l0, l1, l2, l3, l4, l5, l6, l7, l8] (.int (0) :: st) σ Q := gs_go f_244_427 rfl
theorem f_244_428 : ft 244 428 = some (778, .ireturn, []) := rfl
theorem s_244_428 {d : Nat} {σ : xS} {ls : xL} {Q : xR → xS → Prop} {x : Int32} : G d 244 428 ls [.int x] σ Q ↔ ybo x ∧ Q (.inl (some (.int x))) σ := gs_retb f_244_428 rfl
theorem f_244_429 : ft 244 429 = some (779, .goto 707, [879]) := rfl
theorem s_244_429 {d : Nat} {σ : xS} {st : List Value} {Q : xR → xS → Prop} {l0 l1 l2 l3 l4 l5 l6 l7 l8 : Option Value} : G d 244 429 [l0, l1, l2, l3, l4, l5, l6, l7, l8] st σ Q ↔ G d 244 879 [l0, l1, l2, l3, l4, l5, l6, l7, l8] st σ Q := gs_go f_244_429 rfl
theorem f_244_430 : ft 244 430 = some (782, .aload_n 1, []) := rfl
theorem s_244_430 {d : Nat} {σ : xS} {st : List Value} {Q : xR → xS → Prop} {l0 l2 l3 l4 l5 l6 l7 l8 : Option Value} {x : Nat} : G d 244 430 [l0, some (.ref x), l2, l3, l4, l5, l6, l7, l8] st σ Q ↔ G d 244 431 [l0, some (.ref x), l2, l3, l4, l5, l6, l7, l8] (.ref x :: st) σ Q := gs_go f_244_430 rfl
theorem f_244_431 : ft 244 431 = some (783, .invokevirtual 128, [106, 1, 0, 423]) := rfl
theorem s_244_431 {d : Nat} {t : yT} {st : List Value} {Q : xR → xS → Prop} {l0 l1 l2 l3 l4 l5 l6 l7 l8 : Option Value} {a0 : Nat} (ho : yisO 7 a0) : G (d + 1) 244 431 [l0, l1, l2, l3, l4, l5, l6, l7, l8] (.ref a0 :: st) (yemb t) Q ↔ xcat st ≤ 8 ∧ Cl d 106 [.ref a0] (yemb t) (Gk (d + 1) 244 431 [l0, l1, l2, l3, l4, l5, l6, l7, l8] st Q) := gs_call f_244_431 ((xinv_call (i := 431) (n := 423) (ls := [l0, l1, l2, l3, l4, l5, l6, l7, l8]) (kind := 0) (σ := yemb t) (by decide)).trans (xcall_vi [.ref a0] rfl rfl (show (1 : Nat) ≤ 2 by decide) rfl ho))
theorem f_244_432 : ft 244 432 = some (786, .aload_n 2, []) := rfl
theorem s_244_432 {d : Nat} {σ : xS} {st : List Value} {Q : xR → xS → Prop} {l0 l1 l3 l4 l5 l6 l7 l8 : Option Value} {x : Nat} : G d 244 432 [l0, l1, some (.ref x), l3, l4, l5, l6, l7, l8] st σ Q ↔ G d 244 433 [l0, l1, some (.ref x), l3, l4, l5, l6, l7, l8] (.ref x :: st) σ Q := gs_go f_244_432 rfl
theorem f_244_433 : ft 244 433 = some (787, .invokevirtual 131, [201, 1, 0, 1592]) := rfl
theorem s_244_433 {d : Nat} {t : yT} {st : List Value} {Q : xR → xS → Prop} {l0 l1 l2 l3 l4 l5 l6 l7 l8 : Option Value} {a0 : Nat} (ho : yisO 8 a0) : G (d + 1) 244 433 [l0, l1, l2, l3, l4, l5, l6, l7, l8] (.ref a0 :: st) (yemb t) Q ↔ xcat st ≤ 8 ∧ Cl d 201 [.ref a0] (yemb t) (Gk (d + 1) 244 433 [l0, l1, l2, l3, l4, l5, l6, l7, l8] st Q) := gs_call f_244_433 ((xinv_call (i := 433) (n := 1592) (ls := [l0, l1, l2, l3, l4, l5, l6, l7, l8]) (kind := 0) (σ := yemb t) (by decide)).trans (xcall_vi [.ref a0] rfl rfl (show (1 : Nat) ≤ 2 by decide) rfl ho))
theorem f_244_434 : ft 244 434 = some (790, .if_icmp .eq 696, [879]) := rfl
theorem s_244_434 {d : Nat} {σ : xS} {st : List Value} {Q : xR → xS → Prop} {l0 l1 l2 l3 l4 l5 l6 l7 l8 : Option Value} {x y : Int32} : G d 244 434 [l0, l1, l2, l3, l4, l5, l6, l7, l8] (.int y :: .int x :: st) σ Q ↔ if x = y then G d 244 879 [l0, l1, l2, l3, l4, l5, l6, l7, l8] st σ Q else G d 244 435 [l0, l1, l2, l3, l4, l5, l6, l7, l8] st σ Q := gs_if f_244_434 rfl
theorem f_244_435 : ft 244 435 = some (793, .iconst 0, []) := rfl
theorem s_244_435 {d : Nat} {σ : xS} {st : List Value} {Q : xR → xS → Prop} {l0 l1 l2 l3 l4 l5 l6 l7 l8 : Option Value} : G d 244 435 [l0, l1, l2, l3, l4, l5, l6, l7, l8] st σ Q ↔ G d 244 436 [l0, l1, l2, l3, l4, l5, l6, l7, l8] (.int (0) :: st) σ Q := gs_go f_244_435 rfl
theorem f_244_436 : ft 244 436 = some (794, .ireturn, []) := rfl
theorem s_244_436 {d : Nat} {σ : xS} {ls : xL} {Q : xR → xS → Prop} {x : Int32} : G d 244 436 ls [.int x] σ Q ↔ ybo x ∧ Q (.inl (some (.int x))) σ := gs_retb f_244_436 rfl
theorem f_244_437 : ft 244 437 = some (795, .aload_n 1, []) := rfl
theorem s_244_437 {d : Nat} {σ : xS} {st : List Value} {Q : xR → xS → Prop} {l0 l2 l3 l4 l5 l6 l7 l8 : Option Value} {x : Nat} : G d 244 437 [l0, some (.ref x), l2, l3, l4, l5, l6, l7, l8] st σ Q ↔ G d 244 438 [l0, some (.ref x), l2, l3, l4, l5, l6, l7, l8] (.ref x :: st) σ Q := gs_go f_244_437 rfl
theorem f_244_438 : ft 244 438 = some (796, .invokevirtual 132, [107, 1, 0, 476]) := rfl
theorem s_244_438 {d : Nat} {t : yT} {st : List Value} {Q : xR → xS → Prop} {l0 l1 l2 l3 l4 l5 l6 l7 l8 : Option Value} {a0 : Nat} (ho : yisO 7 a0) : G (d + 1) 244 438 [l0, l1, l2, l3, l4, l5, l6, l7, l8] (.ref a0 :: st) (yemb t) Q ↔ xcat st ≤ 8 ∧ Cl d 107 [.ref a0] (yemb t) (Gk (d + 1) 244 438 [l0, l1, l2, l3, l4, l5, l6, l7, l8] st Q) := gs_call f_244_438 ((xinv_call (i := 438) (n := 476) (ls := [l0, l1, l2, l3, l4, l5, l6, l7, l8]) (kind := 0) (σ := yemb t) (by decide)).trans (xcall_vi [.ref a0] rfl rfl (show (1 : Nat) ≤ 2 by decide) rfl ho))
theorem f_244_439 : ft 244 439 = some (799, .dstore 5, []) := rfl
theorem s_244_439 {d : Nat} {σ : xS} {st : List Value} {Q : xR → xS → Prop} {l0 l1 l2 l3 l4 l5 l6 l7 l8 : Option Value} {x : UInt64} : G d 244 439 [l0, l1, l2, l3, l4, l5, l6, l7, l8] (.double x :: st) σ Q ↔ G d 244 440 [l0, l1, l2, l3, ykl l4, some (.double x), none, l7, l8] st σ Q := by
  cases l4 with
  | none => exact gs_go f_244_439 rfl
  | some v => cases v <;> exact gs_go f_244_439 rfl
theorem f_244_440 : ft 244 440 = some (801, .aload_n 2, []) := rfl
theorem s_244_440 {d : Nat} {σ : xS} {st : List Value} {Q : xR → xS → Prop} {l0 l1 l3 l4 l5 l6 l7 l8 : Option Value} {x : Nat} : G d 244 440 [l0, l1, some (.ref x), l3, l4, l5, l6, l7, l8] st σ Q ↔ G d 244 441 [l0, l1, some (.ref x), l3, l4, l5, l6, l7, l8] (.ref x :: st) σ Q := gs_go f_244_440 rfl
theorem f_244_441 : ft 244 441 = some (802, .invokevirtual 136, [202, 1, 0, 1600]) := rfl
theorem s_244_441 {d : Nat} {t : yT} {st : List Value} {Q : xR → xS → Prop} {l0 l1 l2 l3 l4 l5 l6 l7 l8 : Option Value} {a0 : Nat} (ho : yisO 8 a0) : G (d + 1) 244 441 [l0, l1, l2, l3, l4, l5, l6, l7, l8] (.ref a0 :: st) (yemb t) Q ↔ xcat st ≤ 8 ∧ Cl d 202 [.ref a0] (yemb t) (Gk (d + 1) 244 441 [l0, l1, l2, l3, l4, l5, l6, l7, l8] st Q) := gs_call f_244_441 ((xinv_call (i := 441) (n := 1600) (ls := [l0, l1, l2, l3, l4, l5, l6, l7, l8]) (kind := 0) (σ := yemb t) (by decide)).trans (xcall_vi [.ref a0] rfl rfl (show (1 : Nat) ≤ 3 by decide) rfl ho))
theorem f_244_442 : ft 244 442 = some (805, .dstore 7, []) := rfl
theorem s_244_442 {d : Nat} {σ : xS} {st : List Value} {Q : xR → xS → Prop} {l0 l1 l2 l3 l4 l5 l6 l7 l8 : Option Value} {x : UInt64} : G d 244 442 [l0, l1, l2, l3, l4, l5, l6, l7, l8] (.double x :: st) σ Q ↔ G d 244 443 [l0, l1, l2, l3, l4, l5, ykl l6, some (.double x), none] st σ Q := by
  cases l6 with
  | none => exact gs_go f_244_442 rfl
  | some v => cases v <;> exact gs_go f_244_442 rfl
theorem f_244_443 : ft 244 443 = some (807, .dload 5, []) := rfl
theorem s_244_443 {d : Nat} {σ : xS} {st : List Value} {Q : xR → xS → Prop} {l0 l1 l2 l3 l4 l6 l7 l8 : Option Value} {x : UInt64} : G d 244 443 [l0, l1, l2, l3, l4, some (.double x), l6, l7, l8] st σ Q ↔ G d 244 444 [l0, l1, l2, l3, l4, some (.double x), l6, l7, l8] (.double x :: st) σ Q := gs_go f_244_443 rfl
theorem f_244_444 : ft 244 444 = some (809, .dload 7, []) := rfl
theorem s_244_444 {d : Nat} {σ : xS} {st : List Value} {Q : xR → xS → Prop} {l0 l1 l2 l3 l4 l5 l6 l8 : Option Value} {x : UInt64} : G d 244 444 [l0, l1, l2, l3, l4, l5, l6, some (.double x), l8] st σ Q ↔ G d 244 445 [l0, l1, l2, l3, l4, l5, l6, some (.double x), l8] (.double x :: st) σ Q := gs_go f_244_444 rfl
theorem f_244_445 : ft 244 445 = some (811, .dcmp .l, []) := rfl
theorem s_244_445 {d : Nat} {σ : xS} {st : List Value} {Q : xR → xS → Prop} {l0 l1 l2 l3 l4 l5 l6 l7 l8 : Option Value} {x y : UInt64} : G d 244 445 [l0, l1, l2, l3, l4, l5, l6, l7, l8] (.double y :: .double x :: st) σ Q ↔ G d 244 446 [l0, l1, l2, l3, l4, l5, l6, l7, l8] (.int (Op.cmpValue (FP.dcmp x y) .l) :: st) σ Q := gs_go f_244_445 rfl
theorem f_244_446 : ft 244 446 = some (812, .ifCond .eq 21, [457]) := rfl
theorem s_244_446 {d : Nat} {σ : xS} {st : List Value} {Q : xR → xS → Prop} {l0 l1 l2 l3 l4 l5 l6 l7 l8 : Option Value} {x : Int32} : G d 244 446 [l0, l1, l2, l3, l4, l5, l6, l7, l8] (.int x :: st) σ Q ↔ if x = 0 then G d 244 457 [l0, l1, l2, l3, l4, l5, l6, l7, l8] st σ Q else G d 244 447 [l0, l1, l2, l3, l4, l5, l6, l7, l8] st σ Q := gs_if f_244_446 rfl
theorem f_244_447 : ft 244 447 = some (815, .dload 5, []) := rfl
theorem s_244_447 {d : Nat} {σ : xS} {st : List Value} {Q : xR → xS → Prop} {l0 l1 l2 l3 l4 l6 l7 l8 : Option Value} {x : UInt64} : G d 244 447 [l0, l1, l2, l3, l4, some (.double x), l6, l7, l8] st σ Q ↔ G d 244 448 [l0, l1, l2, l3, l4, some (.double x), l6, l7, l8] (.double x :: st) σ Q := gs_go f_244_447 rfl
theorem f_244_448 : ft 244 448 = some (817, .dload 5, []) := rfl
theorem s_244_448 {d : Nat} {σ : xS} {st : List Value} {Q : xR → xS → Prop} {l0 l1 l2 l3 l4 l6 l7 l8 : Option Value} {x : UInt64} : G d 244 448 [l0, l1, l2, l3, l4, some (.double x), l6, l7, l8] st σ Q ↔ G d 244 449 [l0, l1, l2, l3, l4, some (.double x), l6, l7, l8] (.double x :: st) σ Q := gs_go f_244_448 rfl
theorem f_244_449 : ft 244 449 = some (819, .dcmp .l, []) := rfl
theorem s_244_449 {d : Nat} {σ : xS} {st : List Value} {Q : xR → xS → Prop} {l0 l1 l2 l3 l4 l5 l6 l7 l8 : Option Value} {x y : UInt64} : G d 244 449 [l0, l1, l2, l3, l4, l5, l6, l7, l8] (.double y :: .double x :: st) σ Q ↔ G d 244 450 [l0, l1, l2, l3, l4, l5, l6, l7, l8] (.int (Op.cmpValue (FP.dcmp x y) .l) :: st) σ Q := gs_go f_244_449 rfl
theorem f_244_450 : ft 244 450 = some (820, .ifCond .eq 11, [455]) := rfl
theorem s_244_450 {d : Nat} {σ : xS} {st : List Value} {Q : xR → xS → Prop} {l0 l1 l2 l3 l4 l5 l6 l7 l8 : Option Value} {x : Int32} : G d 244 450 [l0, l1, l2, l3, l4, l5, l6, l7, l8] (.int x :: st) σ Q ↔ if x = 0 then G d 244 455 [l0, l1, l2, l3, l4, l5, l6, l7, l8] st σ Q else G d 244 451 [l0, l1, l2, l3, l4, l5, l6, l7, l8] st σ Q := gs_if f_244_450 rfl
theorem f_244_451 : ft 244 451 = some (823, .dload 7, []) := rfl
theorem s_244_451 {d : Nat} {σ : xS} {st : List Value} {Q : xR → xS → Prop} {l0 l1 l2 l3 l4 l5 l6 l8 : Option Value} {x : UInt64} : G d 244 451 [l0, l1, l2, l3, l4, l5, l6, some (.double x), l8] st σ Q ↔ G d 244 452 [l0, l1, l2, l3, l4, l5, l6, some (.double x), l8] (.double x :: st) σ Q := gs_go f_244_451 rfl
theorem f_244_452 : ft 244 452 = some (825, .dload 7, []) := rfl
theorem s_244_452 {d : Nat} {σ : xS} {st : List Value} {Q : xR → xS → Prop} {l0 l1 l2 l3 l4 l5 l6 l8 : Option Value} {x : UInt64} : G d 244 452 [l0, l1, l2, l3, l4, l5, l6, some (.double x), l8] st σ Q ↔ G d 244 453 [l0, l1, l2, l3, l4, l5, l6, some (.double x), l8] (.double x :: st) σ Q := gs_go f_244_452 rfl
theorem f_244_453 : ft 244 453 = some (827, .dcmp .l, []) := rfl
theorem s_244_453 {d : Nat} {σ : xS} {st : List Value} {Q : xR → xS → Prop} {l0 l1 l2 l3 l4 l5 l6 l7 l8 : Option Value} {x y : UInt64} : G d 244 453 [l0, l1, l2, l3, l4, l5, l6, l7, l8] (.double y :: .double x :: st) σ Q ↔ G d 244 454 [l0, l1, l2, l3, l4, l5, l6, l7, l8] (.int (Op.cmpValue (FP.dcmp x y) .l) :: st) σ Q := gs_go f_244_453 rfl
theorem f_244_454 : ft 244 454 = some (828, .ifCond .ne 5, [457]) := rfl
theorem s_244_454 {d : Nat} {σ : xS} {st : List Value} {Q : xR → xS → Prop} {l0 l1 l2 l3 l4 l5 l6 l7 l8 : Option Value} {x : Int32} : G d 244 454 [l0, l1, l2, l3, l4, l5, l6, l7, l8] (.int x :: st) σ Q ↔ if x ≠ 0 then G d 244 457 [l0, l1, l2, l3, l4, l5, l6, l7, l8] st σ Q else G d 244 455 [l0, l1, l2, l3, l4, l5, l6, l7, l8] st σ Q := gs_if f_244_454 rfl
theorem f_244_455 : ft 244 455 = some (831, .iconst 0, []) := rfl
theorem s_244_455 {d : Nat} {σ : xS} {st : List Value} {Q : xR → xS → Prop} {l0 l1 l2 l3 l4 l5 l6 l7 l8 : Option Value} : G d 244 455 [l0, l1, l2, l3, l4, l5, l6, l7, l8] st σ Q ↔ G d 244 456 [l0, l1, l2, l3, l4, l5, l6, l7, l8] (.int (0) :: st) σ Q := gs_go f_244_455 rfl
theorem f_244_456 : ft 244 456 = some (832, .ireturn, []) := rfl
theorem s_244_456 {d : Nat} {σ : xS} {ls : xL} {Q : xR → xS → Prop} {x : Int32} : G d 244 456 ls [.int x] σ Q ↔ ybo x ∧ Q (.inl (some (.int x))) σ := gs_retb f_244_456 rfl
theorem f_244_457 : ft 244 457 = some (833, .goto 653, [879]) := rfl
theorem s_244_457 {d : Nat} {σ : xS} {st : List Value} {Q : xR → xS → Prop} {l0 l1 l2 l3 l4 l5 l6 l7 l8 : Option Value} : G d 244 457 [l0, l1, l2, l3, l4, l5, l6, l7, l8] st σ Q ↔ G d 244 879 [l0, l1, l2, l3, l4, l5, l6, l7, l8] st σ Q := gs_go f_244_457 rfl
theorem f_244_458 : ft 244 458 = some (836, .aload_n 1, []) := rfl
theorem s_244_458 {d : Nat} {σ : xS} {st : List Value} {Q : xR → xS → Prop} {l0 l2 l3 l4 l5 l6 l7 l8 : Option Value} {x : Nat} : G d 244 458 [l0, some (.ref x), l2, l3, l4, l5, l6, l7, l8] st σ Q ↔ G d 244 459 [l0, some (.ref x), l2, l3, l4, l5, l6, l7, l8] (.ref x :: st) σ Q := gs_go f_244_458 rfl
theorem f_244_459 : ft 244 459 = some (837, .aload_n 0, []) := rfl
theorem s_244_459 {d : Nat} {σ : xS} {st : List Value} {Q : xR → xS → Prop} {l1 l2 l3 l4 l5 l6 l7 l8 : Option Value} {x : Nat} : G d 244 459 [some (.ref x), l1, l2, l3, l4, l5, l6, l7, l8] st σ Q ↔ G d 244 460 [some (.ref x), l1, l2, l3, l4, l5, l6, l7, l8] (.ref x :: st) σ Q := gs_go f_244_459 rfl
theorem f_244_460 : ft 244 460 = some (838, .iload 4, []) := rfl
theorem s_244_460 {d : Nat} {σ : xS} {st : List Value} {Q : xR → xS → Prop} {l0 l1 l2 l3 l5 l6 l7 l8 : Option Value} {x : Int32} : G d 244 460 [l0, l1, l2, l3, some (.int x), l5, l6, l7, l8] st σ Q ↔ G d 244 461 [l0, l1, l2, l3, some (.int x), l5, l6, l7, l8] (.int x :: st) σ Q := gs_go f_244_460 rfl
theorem f_244_461 : ft 244 461 = some (840, .iconst 1, []) := rfl
theorem s_244_461 {d : Nat} {σ : xS} {st : List Value} {Q : xR → xS → Prop} {l0 l1 l2 l3 l4 l5 l6 l7 l8 : Option Value} : G d 244 461 [l0, l1, l2, l3, l4, l5, l6, l7, l8] st σ Q ↔ G d 244 462 [l0, l1, l2, l3, l4, l5, l6, l7, l8] (.int (1) :: st) σ Q := gs_go f_244_461 rfl
theorem f_244_462 : ft 244 462 = some (841, .iadd, []) := rfl
theorem s_244_462 {d : Nat} {σ : xS} {st : List Value} {Q : xR → xS → Prop} {l0 l1 l2 l3 l4 l5 l6 l7 l8 : Option Value} {x y : Int32} : G d 244 462 [l0, l1, l2, l3, l4, l5, l6, l7, l8] (.int y :: .int x :: st) σ Q ↔ G d 244 463 [l0, l1, l2, l3, l4, l5, l6, l7, l8] (.int (x + y) :: st) σ Q := gs_go f_244_462 rfl
theorem f_244_463 : ft 244 463 = some (842, .iaload, []) := rfl
theorem s_244_463 {d : Nat} {t : yT} {st : List Value} {Q : xR → xS → Prop} {l0 l1 l2 l3 l4 l5 l6 l7 l8 : Option Value} {a : Nat} {x : Int32} (ha : yA 0 a) : G d 244 463 [l0, l1, l2, l3, l4, l5, l6, l7, l8] (.int x :: .ref a :: st) (yemb t) Q ↔ yix x (yn a) ∧ G d 244 464 [l0, l1, l2, l3, l4, l5, l6, l7, l8] (.int (t.A a x.toNatClampNeg) :: st) (yemb t) Q := gs_iald f_244_463 ha
theorem f_244_464 : ft 244 464 = some (843, .aload_n 0, []) := rfl
theorem s_244_464 {d : Nat} {σ : xS} {st : List Value} {Q : xR → xS → Prop} {l1 l2 l3 l4 l5 l6 l7 l8 : Option Value} {x : Nat} : G d 244 464 [some (.ref x), l1, l2, l3, l4, l5, l6, l7, l8] st σ Q ↔ G d 244 465 [some (.ref x), l1, l2, l3, l4, l5, l6, l7, l8] (.ref x :: st) σ Q := gs_go f_244_464 rfl
theorem f_244_465 : ft 244 465 = some (844, .iload 4, []) := rfl
theorem s_244_465 {d : Nat} {σ : xS} {st : List Value} {Q : xR → xS → Prop} {l0 l1 l2 l3 l5 l6 l7 l8 : Option Value} {x : Int32} : G d 244 465 [l0, l1, l2, l3, some (.int x), l5, l6, l7, l8] st σ Q ↔ G d 244 466 [l0, l1, l2, l3, some (.int x), l5, l6, l7, l8] (.int x :: st) σ Q := gs_go f_244_465 rfl
theorem f_244_466 : ft 244 466 = some (846, .iconst 2, []) := rfl
theorem s_244_466 {d : Nat} {σ : xS} {st : List Value} {Q : xR → xS → Prop} {l0 l1 l2 l3 l4 l5 l6 l7 l8 : Option Value} : G d 244 466 [l0, l1, l2, l3, l4, l5, l6, l7, l8] st σ Q ↔ G d 244 467 [l0, l1, l2, l3, l4, l5, l6, l7, l8] (.int (2) :: st) σ Q := gs_go f_244_466 rfl
theorem f_244_467 : ft 244 467 = some (847, .iadd, []) := rfl
theorem s_244_467 {d : Nat} {σ : xS} {st : List Value} {Q : xR → xS → Prop} {l0 l1 l2 l3 l4 l5 l6 l7 l8 : Option Value} {x y : Int32} : G d 244 467 [l0, l1, l2, l3, l4, l5, l6, l7, l8] (.int y :: .int x :: st) σ Q ↔ G d 244 468 [l0, l1, l2, l3, l4, l5, l6, l7, l8] (.int (x + y) :: st) σ Q := gs_go f_244_467 rfl
theorem f_244_468 : ft 244 468 = some (848, .iaload, []) := rfl
theorem s_244_468 {d : Nat} {t : yT} {st : List Value} {Q : xR → xS → Prop} {l0 l1 l2 l3 l4 l5 l6 l7 l8 : Option Value} {a : Nat} {x : Int32} (ha : yA 0 a) : G d 244 468 [l0, l1, l2, l3, l4, l5, l6, l7, l8] (.int x :: .ref a :: st) (yemb t) Q ↔ yix x (yn a) ∧ G d 244 469 [l0, l1, l2, l3, l4, l5, l6, l7, l8] (.int (t.A a x.toNatClampNeg) :: st) (yemb t) Q := gs_iald f_244_468 ha
theorem f_244_469 : ft 244 469 = some (849, .aload_n 0, []) := rfl
theorem s_244_469 {d : Nat} {σ : xS} {st : List Value} {Q : xR → xS → Prop} {l1 l2 l3 l4 l5 l6 l7 l8 : Option Value} {x : Nat} : G d 244 469 [some (.ref x), l1, l2, l3, l4, l5, l6, l7, l8] st σ Q ↔ G d 244 470 [some (.ref x), l1, l2, l3, l4, l5, l6, l7, l8] (.ref x :: st) σ Q := gs_go f_244_469 rfl
theorem f_244_470 : ft 244 470 = some (850, .iload 4, []) := rfl
theorem s_244_470 {d : Nat} {σ : xS} {st : List Value} {Q : xR → xS → Prop} {l0 l1 l2 l3 l5 l6 l7 l8 : Option Value} {x : Int32} : G d 244 470 [l0, l1, l2, l3, some (.int x), l5, l6, l7, l8] st σ Q ↔ G d 244 471 [l0, l1, l2, l3, some (.int x), l5, l6, l7, l8] (.int x :: st) σ Q := gs_go f_244_470 rfl
theorem f_244_471 : ft 244 471 = some (852, .iconst 3, []) := rfl
theorem s_244_471 {d : Nat} {σ : xS} {st : List Value} {Q : xR → xS → Prop} {l0 l1 l2 l3 l4 l5 l6 l7 l8 : Option Value} : G d 244 471 [l0, l1, l2, l3, l4, l5, l6, l7, l8] st σ Q ↔ G d 244 472 [l0, l1, l2, l3, l4, l5, l6, l7, l8] (.int (3) :: st) σ Q := gs_go f_244_471 rfl
theorem f_244_472 : ft 244 472 = some (853, .iadd, []) := rfl
theorem s_244_472 {d : Nat} {σ : xS} {st : List Value} {Q : xR → xS → Prop} {l0 l1 l2 l3 l4 l5 l6 l7 l8 : Option Value} {x y : Int32} : G d 244 472 [l0, l1, l2, l3, l4, l5, l6, l7, l8] (.int y :: .int x :: st) σ Q ↔ G d 244 473 [l0, l1, l2, l3, l4, l5, l6, l7, l8] (.int (x + y) :: st) σ Q := gs_go f_244_472 rfl
theorem f_244_473 : ft 244 473 = some (854, .iaload, []) := rfl
theorem s_244_473 {d : Nat} {t : yT} {st : List Value} {Q : xR → xS → Prop} {l0 l1 l2 l3 l4 l5 l6 l7 l8 : Option Value} {a : Nat} {x : Int32} (ha : yA 0 a) : G d 244 473 [l0, l1, l2, l3, l4, l5, l6, l7, l8] (.int x :: .ref a :: st) (yemb t) Q ↔ yix x (yn a) ∧ G d 244 474 [l0, l1, l2, l3, l4, l5, l6, l7, l8] (.int (t.A a x.toNatClampNeg) :: st) (yemb t) Q := gs_iald f_244_473 ha
theorem f_244_474 : ft 244 474 = some (855, .aload_n 0, []) := rfl
theorem s_244_474 {d : Nat} {σ : xS} {st : List Value} {Q : xR → xS → Prop} {l1 l2 l3 l4 l5 l6 l7 l8 : Option Value} {x : Nat} : G d 244 474 [some (.ref x), l1, l2, l3, l4, l5, l6, l7, l8] st σ Q ↔ G d 244 475 [some (.ref x), l1, l2, l3, l4, l5, l6, l7, l8] (.ref x :: st) σ Q := gs_go f_244_474 rfl
theorem f_244_475 : ft 244 475 = some (856, .iload 4, []) := rfl
theorem s_244_475 {d : Nat} {σ : xS} {st : List Value} {Q : xR → xS → Prop} {l0 l1 l2 l3 l5 l6 l7 l8 : Option Value} {x : Int32} : G d 244 475 [l0, l1, l2, l3, some (.int x), l5, l6, l7, l8] st σ Q ↔ G d 244 476 [l0, l1, l2, l3, some (.int x), l5, l6, l7, l8] (.int x :: st) σ Q := gs_go f_244_475 rfl
theorem f_244_476 : ft 244 476 = some (858, .iconst 4, []) := rfl
theorem s_244_476 {d : Nat} {σ : xS} {st : List Value} {Q : xR → xS → Prop} {l0 l1 l2 l3 l4 l5 l6 l7 l8 : Option Value} : G d 244 476 [l0, l1, l2, l3, l4, l5, l6, l7, l8] st σ Q ↔ G d 244 477 [l0, l1, l2, l3, l4, l5, l6, l7, l8] (.int (4) :: st) σ Q := gs_go f_244_476 rfl
theorem f_244_477 : ft 244 477 = some (859, .iadd, []) := rfl
theorem s_244_477 {d : Nat} {σ : xS} {st : List Value} {Q : xR → xS → Prop} {l0 l1 l2 l3 l4 l5 l6 l7 l8 : Option Value} {x y : Int32} : G d 244 477 [l0, l1, l2, l3, l4, l5, l6, l7, l8] (.int y :: .int x :: st) σ Q ↔ G d 244 478 [l0, l1, l2, l3, l4, l5, l6, l7, l8] (.int (x + y) :: st) σ Q := gs_go f_244_477 rfl
theorem f_244_478 : ft 244 478 = some (860, .iaload, []) := rfl
theorem s_244_478 {d : Nat} {t : yT} {st : List Value} {Q : xR → xS → Prop} {l0 l1 l2 l3 l4 l5 l6 l7 l8 : Option Value} {a : Nat} {x : Int32} (ha : yA 0 a) : G d 244 478 [l0, l1, l2, l3, l4, l5, l6, l7, l8] (.int x :: .ref a :: st) (yemb t) Q ↔ yix x (yn a) ∧ G d 244 479 [l0, l1, l2, l3, l4, l5, l6, l7, l8] (.int (t.A a x.toNatClampNeg) :: st) (yemb t) Q := gs_iald f_244_478 ha
theorem f_244_479 : ft 244 479 = some (861, .aload_n 0, []) := rfl
theorem s_244_479 {d : Nat} {σ : xS} {st : List Value} {Q : xR → xS → Prop} {l1 l2 l3 l4 l5 l6 l7 l8 : Option Value} {x : Nat} : G d 244 479 [some (.ref x), l1, l2, l3, l4, l5, l6, l7, l8] st σ Q ↔ G d 244 480 [some (.ref x), l1, l2, l3, l4, l5, l6, l7, l8] (.ref x :: st) σ Q := gs_go f_244_479 rfl
theorem f_244_480 : ft 244 480 = some (862, .iload 4, []) := rfl
theorem s_244_480 {d : Nat} {σ : xS} {st : List Value} {Q : xR → xS → Prop} {l0 l1 l2 l3 l5 l6 l7 l8 : Option Value} {x : Int32} : G d 244 480 [l0, l1, l2, l3, some (.int x), l5, l6, l7, l8] st σ Q ↔ G d 244 481 [l0, l1, l2, l3, some (.int x), l5, l6, l7, l8] (.int x :: st) σ Q := gs_go f_244_480 rfl
theorem f_244_481 : ft 244 481 = some (864, .iconst 5, []) := rfl
theorem s_244_481 {d : Nat} {σ : xS} {st : List Value} {Q : xR → xS → Prop} {l0 l1 l2 l3 l4 l5 l6 l7 l8 : Option Value} : G d 244 481 [l0, l1, l2, l3, l4, l5, l6, l7, l8] st σ Q ↔ G d 244 482 [l0, l1, l2, l3, l4, l5, l6, l7, l8] (.int (5) :: st) σ Q := gs_go f_244_481 rfl
theorem f_244_482 : ft 244 482 = some (865, .iadd, []) := rfl
theorem s_244_482 {d : Nat} {σ : xS} {st : List Value} {Q : xR → xS → Prop} {l0 l1 l2 l3 l4 l5 l6 l7 l8 : Option Value} {x y : Int32} : G d 244 482 [l0, l1, l2, l3, l4, l5, l6, l7, l8] (.int y :: .int x :: st) σ Q ↔ G d 244 483 [l0, l1, l2, l3, l4, l5, l6, l7, l8] (.int (x + y) :: st) σ Q := gs_go f_244_482 rfl
theorem f_244_483 : ft 244 483 = some (866, .iaload, []) := rfl
theorem s_244_483 {d : Nat} {t : yT} {st : List Value} {Q : xR → xS → Prop} {l0 l1 l2 l3 l4 l5 l6 l7 l8 : Option Value} {a : Nat} {x : Int32} (ha : yA 0 a) : G d 244 483 [l0, l1, l2, l3, l4, l5, l6, l7, l8] (.int x :: .ref a :: st) (yemb t) Q ↔ yix x (yn a) ∧ G d 244 484 [l0, l1, l2, l3, l4, l5, l6, l7, l8] (.int (t.A a x.toNatClampNeg) :: st) (yemb t) Q := gs_iald f_244_483 ha
theorem f_244_484 : ft 244 484 = some (867, .aload_n 3, []) := rfl
theorem s_244_484 {d : Nat} {σ : xS} {st : List Value} {Q : xR → xS → Prop} {l0 l1 l2 l4 l5 l6 l7 l8 : Option Value} {x : Nat} : G d 244 484 [l0, l1, l2, some (.ref x), l4, l5, l6, l7, l8] st σ Q ↔ G d 244 485 [l0, l1, l2, some (.ref x), l4, l5, l6, l7, l8] (.ref x :: st) σ Q := gs_go f_244_484 rfl
theorem f_244_485 : ft 244 485 = some (868, .invokestatic 137, [235, 7, 6, 1070]) := rfl
theorem s_244_485 {d : Nat} {σ : xS} {st : List Value} {Q : xR → xS → Prop} {l0 l1 l2 l3 l4 l5 l6 l7 l8 : Option Value} {a0 : Nat} {a1 : Int32} {a2 : Int32} {a3 : Int32} {a4 : Int32} {a5 : Int32} {a6 : Nat} : G (d + 1) 244 485 [l0, l1, l2, l3, l4, l5, l6, l7, l8] (.ref a6 :: .int a5 :: .int a4 :: .int a3 :: .int a2 :: .int a1 :: .ref a0 :: st) σ Q ↔ xcat st ≤ 8 ∧ Cl d 235 [.ref a0, .int a1, .int a2, .int a3, .int a4, .int a5, .ref a6] σ (Gk (d + 1) 244 485 [l0, l1, l2, l3, l4, l5, l6, l7, l8] st Q) := gs_call f_244_485 ((xinv_call (i := 485) (n := 1070) (ls := [l0, l1, l2, l3, l4, l5, l6, l7, l8]) (kind := 6) (σ := σ) (by decide)).trans (xcall_st [.ref a6, .int a5, .int a4, .int a3, .int a2, .int a1, .ref a0] rfl (by decide) (show (7 : Nat) ≤ 8 by decide)))
theorem f_244_486 : ft 244 486 = some (871, .istore 5, []) := rfl
theorem s_244_486 {d : Nat} {σ : xS} {st : List Value} {Q : xR → xS → Prop} {l0 l1 l2 l3 l4 l5 l6 l7 l8 : Option Value} {x : Int32} : G d 244 486 [l0, l1, l2, l3, l4, l5, l6, l7, l8] (.int x :: st) σ Q ↔ G d 244 487 [l0, l1, l2, l3, ykl l4, some (.int x), l6, l7, l8] st σ Q := by
  cases l4 with
  | none => exact gs_go f_244_486 rfl
  | some v => cases v <;> exact gs_go f_244_486 rfl
theorem f_244_487 : ft 244 487 = some (873, .aload_n 2, []) := rfl
theorem s_244_487 {d : Nat} {σ : xS} {st : List Value} {Q : xR → xS → Prop} {l0 l1 l3 l4 l5 l6 l7 l8 : Option Value} {x : Nat} : G d 244 487 [l0, l1, some (.ref x), l3, l4, l5, l6, l7, l8] st σ Q ↔ G d 244 488 [l0, l1, some (.ref x), l3, l4, l5, l6, l7, l8] (.ref x :: st) σ Q := gs_go f_244_487 rfl
theorem f_244_488 : ft 244 488 = some (874, .aload_n 0, []) := rfl
theorem s_244_488 {d : Nat} {σ : xS} {st : List Value} {Q : xR → xS → Prop} {l1 l2 l3 l4 l5 l6 l7 l8 : Option Value} {x : Nat} : G d 244 488 [some (.ref x), l1, l2, l3, l4, l5, l6, l7, l8] st σ Q ↔ G d 244 489 [some (.ref x), l1, l2, l3, l4, l5, l6, l7, l8] (.ref x :: st) σ Q := gs_go f_244_488 rfl
theorem f_244_489 : ft 244 489 = some (875, .iload 4, []) := rfl
theorem s_244_489 {d : Nat} {σ : xS} {st : List Value} {Q : xR → xS → Prop} {l0 l1 l2 l3 l5 l6 l7 l8 : Option Value} {x : Int32} : G d 244 489 [l0, l1, l2, l3, some (.int x), l5, l6, l7, l8] st σ Q ↔ G d 244 490 [l0, l1, l2, l3, some (.int x), l5, l6, l7, l8] (.int x :: st) σ Q := gs_go f_244_489 rfl
theorem f_244_490 : ft 244 490 = some (877, .iconst 1, []) := rfl
theorem s_244_490 {d : Nat} {σ : xS} {st : List Value} {Q : xR → xS → Prop} {l0 l1 l2 l3 l4 l5 l6 l7 l8 : Option Value} : G d 244 490 [l0, l1, l2, l3, l4, l5, l6, l7, l8] st σ Q ↔ G d 244 491 [l0, l1, l2, l3, l4, l5, l6, l7, l8] (.int (1) :: st) σ Q := gs_go f_244_490 rfl
theorem f_244_491 : ft 244 491 = some (878, .iadd, []) := rfl
theorem s_244_491 {d : Nat} {σ : xS} {st : List Value} {Q : xR → xS → Prop} {l0 l1 l2 l3 l4 l5 l6 l7 l8 : Option Value} {x y : Int32} : G d 244 491 [l0, l1, l2, l3, l4, l5, l6, l7, l8] (.int y :: .int x :: st) σ Q ↔ G d 244 492 [l0, l1, l2, l3, l4, l5, l6, l7, l8] (.int (x + y) :: st) σ Q := gs_go f_244_491 rfl
theorem f_244_492 : ft 244 492 = some (879, .iaload, []) := rfl
theorem s_244_492 {d : Nat} {t : yT} {st : List Value} {Q : xR → xS → Prop} {l0 l1 l2 l3 l4 l5 l6 l7 l8 : Option Value} {a : Nat} {x : Int32} (ha : yA 0 a) : G d 244 492 [l0, l1, l2, l3, l4, l5, l6, l7, l8] (.int x :: .ref a :: st) (yemb t) Q ↔ yix x (yn a) ∧ G d 244 493 [l0, l1, l2, l3, l4, l5, l6, l7, l8] (.int (t.A a x.toNatClampNeg) :: st) (yemb t) Q := gs_iald f_244_492 ha
theorem f_244_493 : ft 244 493 = some (880, .aload_n 0, []) := rfl
theorem s_244_493 {d : Nat} {σ : xS} {st : List Value} {Q : xR → xS → Prop} {l1 l2 l3 l4 l5 l6 l7 l8 : Option Value} {x : Nat} : G d 244 493 [some (.ref x), l1, l2, l3, l4, l5, l6, l7, l8] st σ Q ↔ G d 244 494 [some (.ref x), l1, l2, l3, l4, l5, l6, l7, l8] (.ref x :: st) σ Q := gs_go f_244_493 rfl
theorem f_244_494 : ft 244 494 = some (881, .iload 4, []) := rfl
theorem s_244_494 {d : Nat} {σ : xS} {st : List Value} {Q : xR → xS → Prop} {l0 l1 l2 l3 l5 l6 l7 l8 : Option Value} {x : Int32} : G d 244 494 [l0, l1, l2, l3, some (.int x), l5, l6, l7, l8] st σ Q ↔ G d 244 495 [l0, l1, l2, l3, some (.int x), l5, l6, l7, l8] (.int x :: st) σ Q := gs_go f_244_494 rfl
theorem f_244_495 : ft 244 495 = some (883, .iconst 2, []) := rfl
theorem s_244_495 {d : Nat} {σ : xS} {st : List Value} {Q : xR → xS → Prop} {l0 l1 l2 l3 l4 l5 l6 l7 l8 : Option Value} : G d 244 495 [l0, l1, l2, l3, l4, l5, l6, l7, l8] st σ Q ↔ G d 244 496 [l0, l1, l2, l3, l4, l5, l6, l7, l8] (.int (2) :: st) σ Q := gs_go f_244_495 rfl
theorem f_244_496 : ft 244 496 = some (884, .iadd, []) := rfl
theorem s_244_496 {d : Nat} {σ : xS} {st : List Value} {Q : xR → xS → Prop} {l0 l1 l2 l3 l4 l5 l6 l7 l8 : Option Value} {x y : Int32} : G d 244 496 [l0, l1, l2, l3, l4, l5, l6, l7, l8] (.int y :: .int x :: st) σ Q ↔ G d 244 497 [l0, l1, l2, l3, l4, l5, l6, l7, l8] (.int (x + y) :: st) σ Q := gs_go f_244_496 rfl
theorem f_244_497 : ft 244 497 = some (885, .iaload, []) := rfl
theorem s_244_497 {d : Nat} {t : yT} {st : List Value} {Q : xR → xS → Prop} {l0 l1 l2 l3 l4 l5 l6 l7 l8 : Option Value} {a : Nat} {x : Int32} (ha : yA 0 a) : G d 244 497 [l0, l1, l2, l3, l4, l5, l6, l7, l8] (.int x :: .ref a :: st) (yemb t) Q ↔ yix x (yn a) ∧ G d 244 498 [l0, l1, l2, l3, l4, l5, l6, l7, l8] (.int (t.A a x.toNatClampNeg) :: st) (yemb t) Q := gs_iald f_244_497 ha
theorem f_244_498 : ft 244 498 = some (886, .aload_n 0, []) := rfl
theorem s_244_498 {d : Nat} {σ : xS} {st : List Value} {Q : xR → xS → Prop} {l1 l2 l3 l4 l5 l6 l7 l8 : Option Value} {x : Nat} : G d 244 498 [some (.ref x), l1, l2, l3, l4, l5, l6, l7, l8] st σ Q ↔ G d 244 499 [some (.ref x), l1, l2, l3, l4, l5, l6, l7, l8] (.ref x :: st) σ Q := gs_go f_244_498 rfl
theorem f_244_499 : ft 244 499 = some (887, .iload 4, []) := rfl
theorem s_244_499 {d : Nat} {σ : xS} {st : List Value} {Q : xR → xS → Prop} {l0 l1 l2 l3 l5 l6 l7 l8 : Option Value} {x : Int32} : G d 244 499 [l0, l1, l2, l3, some (.int x), l5, l6, l7, l8] st σ Q ↔ G d 244 500 [l0, l1, l2, l3, some (.int x), l5, l6, l7, l8] (.int x :: st) σ Q := gs_go f_244_499 rfl
theorem f_244_500 : ft 244 500 = some (889, .iconst 3, []) := rfl
theorem s_244_500 {d : Nat} {σ : xS} {st : List Value} {Q : xR → xS → Prop} {l0 l1 l2 l3 l4 l5 l6 l7 l8 : Option Value} : G d 244 500 [l0, l1, l2, l3, l4, l5, l6, l7, l8] st σ Q ↔ G d 244 501 [l0, l1, l2, l3, l4, l5, l6, l7, l8] (.int (3) :: st) σ Q := gs_go f_244_500 rfl
theorem f_244_501 : ft 244 501 = some (890, .iadd, []) := rfl
theorem s_244_501 {d : Nat} {σ : xS} {st : List Value} {Q : xR → xS → Prop} {l0 l1 l2 l3 l4 l5 l6 l7 l8 : Option Value} {x y : Int32} : G d 244 501 [l0, l1, l2, l3, l4, l5, l6, l7, l8] (.int y :: .int x :: st) σ Q ↔ G d 244 502 [l0, l1, l2, l3, l4, l5, l6, l7, l8] (.int (x + y) :: st) σ Q := gs_go f_244_501 rfl
theorem f_244_502 : ft 244 502 = some (891, .iaload, []) := rfl
theorem s_244_502 {d : Nat} {t : yT} {st : List Value} {Q : xR → xS → Prop} {l0 l1 l2 l3 l4 l5 l6 l7 l8 : Option Value} {a : Nat} {x : Int32} (ha : yA 0 a) : G d 244 502 [l0, l1, l2, l3, l4, l5, l6, l7, l8] (.int x :: .ref a :: st) (yemb t) Q ↔ yix x (yn a) ∧ G d 244 503 [l0, l1, l2, l3, l4, l5, l6, l7, l8] (.int (t.A a x.toNatClampNeg) :: st) (yemb t) Q := gs_iald f_244_502 ha
theorem f_244_503 : ft 244 503 = some (892, .aload_n 0, []) := rfl
theorem s_244_503 {d : Nat} {σ : xS} {st : List Value} {Q : xR → xS → Prop} {l1 l2 l3 l4 l5 l6 l7 l8 : Option Value} {x : Nat} : G d 244 503 [some (.ref x), l1, l2, l3, l4, l5, l6, l7, l8] st σ Q ↔ G d 244 504 [some (.ref x), l1, l2, l3, l4, l5, l6, l7, l8] (.ref x :: st) σ Q := gs_go f_244_503 rfl
theorem f_244_504 : ft 244 504 = some (893, .iload 4, []) := rfl
theorem s_244_504 {d : Nat} {σ : xS} {st : List Value} {Q : xR → xS → Prop} {l0 l1 l2 l3 l5 l6 l7 l8 : Option Value} {x : Int32} : G d 244 504 [l0, l1, l2, l3, some (.int x), l5, l6, l7, l8] st σ Q ↔ G d 244 505 [l0, l1, l2, l3, some (.int x), l5, l6, l7, l8] (.int x :: st) σ Q := gs_go f_244_504 rfl
theorem f_244_505 : ft 244 505 = some (895, .iconst 4, []) := rfl
theorem s_244_505 {d : Nat} {σ : xS} {st : List Value} {Q : xR → xS → Prop} {l0 l1 l2 l3 l4 l5 l6 l7 l8 : Option Value} : G d 244 505 [l0, l1, l2, l3, l4, l5, l6, l7, l8] st σ Q ↔ G d 244 506 [l0, l1, l2, l3, l4, l5, l6, l7, l8] (.int (4) :: st) σ Q := gs_go f_244_505 rfl
theorem f_244_506 : ft 244 506 = some (896, .iadd, []) := rfl
theorem s_244_506 {d : Nat} {σ : xS} {st : List Value} {Q : xR → xS → Prop} {l0 l1 l2 l3 l4 l5 l6 l7 l8 : Option Value} {x y : Int32} : G d 244 506 [l0, l1, l2, l3, l4, l5, l6, l7, l8] (.int y :: .int x :: st) σ Q ↔ G d 244 507 [l0, l1, l2, l3, l4, l5, l6, l7, l8] (.int (x + y) :: st) σ Q := gs_go f_244_506 rfl
theorem f_244_507 : ft 244 507 = some (897, .iaload, []) := rfl
theorem s_244_507 {d : Nat} {t : yT} {st : List Value} {Q : xR → xS → Prop} {l0 l1 l2 l3 l4 l5 l6 l7 l8 : Option Value} {a : Nat} {x : Int32} (ha : yA 0 a) : G d 244 507 [l0, l1, l2, l3, l4, l5, l6, l7, l8] (.int x :: .ref a :: st) (yemb t) Q ↔ yix x (yn a) ∧ G d 244 508 [l0, l1, l2, l3, l4, l5, l6, l7, l8] (.int (t.A a x.toNatClampNeg) :: st) (yemb t) Q := gs_iald f_244_507 ha
theorem f_244_508 : ft 244 508 = some (898, .aload_n 0, []) := rfl
theorem s_244_508 {d : Nat} {σ : xS} {st : List Value} {Q : xR → xS → Prop} {l1 l2 l3 l4 l5 l6 l7 l8 : Option Value} {x : Nat} : G d 244 508 [some (.ref x), l1, l2, l3, l4, l5, l6, l7, l8] st σ Q ↔ G d 244 509 [some (.ref x), l1, l2, l3, l4, l5, l6, l7, l8] (.ref x :: st) σ Q := gs_go f_244_508 rfl
theorem f_244_509 : ft 244 509 = some (899, .iload 4, []) := rfl
theorem s_244_509 {d : Nat} {σ : xS} {st : List Value} {Q : xR → xS → Prop} {l0 l1 l2 l3 l5 l6 l7 l8 : Option Value} {x : Int32} : G d 244 509 [l0, l1, l2, l3, some (.int x), l5, l6, l7, l8] st σ Q ↔ G d 244 510 [l0, l1, l2, l3, some (.int x), l5, l6, l7, l8] (.int x :: st) σ Q := gs_go f_244_509 rfl
theorem f_244_510 : ft 244 510 = some (901, .iconst 5, []) := rfl
theorem s_244_510 {d : Nat} {σ : xS} {st : List Value} {Q : xR → xS → Prop} {l0 l1 l2 l3 l4 l5 l6 l7 l8 : Option Value} : G d 244 510 [l0, l1, l2, l3, l4, l5, l6, l7, l8] st σ Q ↔ G d 244 511 [l0, l1, l2, l3, l4, l5, l6, l7, l8] (.int (5) :: st) σ Q := gs_go f_244_510 rfl
theorem f_244_511 : ft 244 511 = some (902, .iadd, []) := rfl
theorem s_244_511 {d : Nat} {σ : xS} {st : List Value} {Q : xR → xS → Prop} {l0 l1 l2 l3 l4 l5 l6 l7 l8 : Option Value} {x y : Int32} : G d 244 511 [l0, l1, l2, l3, l4, l5, l6, l7, l8] (.int y :: .int x :: st) σ Q ↔ G d 244 512 [l0, l1, l2, l3, l4, l5, l6, l7, l8] (.int (x + y) :: st) σ Q := gs_go f_244_511 rfl
theorem f_244_512 : ft 244 512 = some (903, .iaload, []) := rfl
theorem s_244_512 {d : Nat} {t : yT} {st : List Value} {Q : xR → xS → Prop} {l0 l1 l2 l3 l4 l5 l6 l7 l8 : Option Value} {a : Nat} {x : Int32} (ha : yA 0 a) : G d 244 512 [l0, l1, l2, l3, l4, l5, l6, l7, l8] (.int x :: .ref a :: st) (yemb t) Q ↔ yix x (yn a) ∧ G d 244 513 [l0, l1, l2, l3, l4, l5, l6, l7, l8] (.int (t.A a x.toNatClampNeg) :: st) (yemb t) Q := gs_iald f_244_512 ha
theorem f_244_513 : ft 244 513 = some (904, .invokevirtual 140, [204, 6, 0, 1604]) := rfl
theorem s_244_513 {d : Nat} {t : yT} {st : List Value} {Q : xR → xS → Prop} {l0 l1 l2 l3 l4 l5 l6 l7 l8 : Option Value} {a0 : Nat} {a1 : Int32} {a2 : Int32} {a3 : Int32} {a4 : Int32} {a5 : Int32} (ho : yisO 8 a0) : G (d + 1) 244 513 [l0, l1, l2, l3, l4, l5, l6, l7, l8] (.int a5 :: .int a4 :: .int a3 :: .int a2 :: .int a1 :: .ref a0 :: st) (yemb t) Q ↔ xcat st ≤ 8 ∧ Cl d 204 [.ref a0, .int a1, .int a2, .int a3, .int a4, .int a5] (yemb t) (Gk (d + 1) 244 513 [l0, l1, l2, l3, l4, l5, l6, l7, l8] st Q) := gs_call f_244_513 ((xinv_call (i := 513) (n := 1604) (ls := [l0, l1, l2, l3, l4, l5, l6, l7, l8]) (kind := 0) (σ := yemb t) (by decide)).trans (xcall_vi [.int a5, .int a4, .int a3, .int a2, .int a1, .ref a0] rfl rfl (show (6 : Nat) ≤ 6 by decide) rfl ho))
theorem f_244_514 : ft 244 514 = some (907, .istore 6, []) := rfl
theorem s_244_514 {d : Nat} {σ : xS} {st : List Value} {Q : xR → xS → Prop} {l0 l1 l2 l3 l4 l5 l6 l7 l8 : Option Value} {x : Int32} : G d 244 514 [l0, l1, l2, l3, l4, l5, l6, l7, l8] (.int x :: st) σ Q ↔ G d 244 515 [l0, l1, l2, l3, l4, ykl l5, some (.int x), l7, l8] st σ Q := by
  cases l5 with
  | none => exact gs_go f_244_514 rfl
  | some v => cases v <;> exact gs_go f_244_514 rfl
theorem f_244_515 : ft 244 515 = some (909, .aload_n 2, []) := rfl
theorem s_244_515 {d : Nat} {σ : xS} {st : List Value} {Q : xR → xS → Prop} {l0 l1 l3 l4 l5 l6 l7 l8 : Option Value} {x : Nat} : G d 244 515 [l0, l1, some (.ref x), l3, l4, l5, l6, l7, l8] st σ Q ↔ G d 244 516 [l0, l1, some (.ref x), l3, l4, l5, l6, l7, l8] (.ref x :: st) σ Q := gs_go f_244_515 rfl
theorem f_244_516 : ft 244 516 = some (910, .invokevirtual 91, [123, 1, 0, 1277]) := rfl
theorem s_244_516 {d : Nat} {t : yT} {st : List Value} {Q : xR → xS → Prop} {l0 l1 l2 l3 l4 l5 l6 l7 l8 : Option Value} {a0 : Nat} (ho : yisO 8 a0) : G (d + 1) 244 516 [l0, l1, l2, l3, l4, l5, l6, l7, l8] (.ref a0 :: st) (yemb t) Q ↔ xcat st ≤ 8 ∧ Cl d 123 [.ref a0] (yemb t) (Gk (d + 1) 244 516 [l0, l1, l2, l3, l4, l5, l6, l7, l8] st Q) := gs_call f_244_516 ((xinv_call (i := 516) (n := 1277) (ls := [l0, l1, l2, l3, l4, l5, l6, l7, l8]) (kind := 0) (σ := yemb t) (by decide)).trans (xcall_vi [.ref a0] rfl rfl (show (1 : Nat) ≤ 1 by decide) rfl ho))
theorem f_244_517 : ft 244 517 = some (913, .iload 5, []) := rfl
theorem s_244_517 {d : Nat} {σ : xS} {st : List Value} {Q : xR → xS → Prop} {l0 l1 l2 l3 l4 l6 l7 l8 : Option Value} {x : Int32} : G d 244 517 [l0, l1, l2, l3, l4, some (.int x), l6, l7, l8] st σ Q ↔ G d 244 518 [l0, l1, l2, l3, l4, some (.int x), l6, l7, l8] (.int x :: st) σ Q := gs_go f_244_517 rfl
theorem f_244_518 : ft 244 518 = some (915, .if_icmp .eq 5, [521]) := rfl
theorem s_244_518 {d : Nat} {σ : xS} {st : List Value} {Q : xR → xS → Prop} {l0 l1 l2 l3 l4 l5 l6 l7 l8 : Option Value} {x y : Int32} : G d 244 518 [l0, l1, l2, l3, l4, l5, l6, l7, l8] (.int y :: .int x :: st) σ Q ↔ if x = y then G d 244 521 [l0, l1, l2, l3, l4, l5, l6, l7, l8] st σ Q else G d 244 519 [l0, l1, l2, l3, l4, l5, l6, l7, l8] st σ Q := gs_if f_244_518 rfl
theorem f_244_519 : ft 244 519 = some (918, .iconst 0, []) := rfl
theorem s_244_519 {d : Nat} {σ : xS} {st : List Value} {Q : xR → xS → Prop} {l0 l1 l2 l3 l4 l5 l6 l7 l8 : Option Value} : G d 244 519 [l0, l1, l2, l3, l4, l5, l6, l7, l8] st σ Q ↔ G d 244 520 [l0, l1, l2, l3, l4, l5, l6, l7, l8] (.int (0) :: st) σ Q := gs_go f_244_519 rfl
theorem f_244_520 : ft 244 520 = some (919, .ireturn, []) := rfl
theorem s_244_520 {d : Nat} {σ : xS} {ls : xL} {Q : xR → xS → Prop} {x : Int32} : G d 244 520 ls [.int x] σ Q ↔ ybo x ∧ Q (.inl (some (.int x))) σ := gs_retb f_244_520 rfl
theorem f_244_521 : ft 244 521 = some (920, .iload 5, []) := rfl
theorem s_244_521 {d : Nat} {σ : xS} {st : List Value} {Q : xR → xS → Prop} {l0 l1 l2 l3 l4 l6 l7 l8 : Option Value} {x : Int32} : G d 244 521 [l0, l1, l2, l3, l4, some (.int x), l6, l7, l8] st σ Q ↔ G d 244 522 [l0, l1, l2, l3, l4, some (.int x), l6, l7, l8] (.int x :: st) σ Q := gs_go f_244_521 rfl
theorem f_244_522 : ft 244 522 = some (922, .ifCond .ne 15, [532]) := rfl
theorem s_244_522 {d : Nat} {σ : xS} {st : List Value} {Q : xR → xS → Prop} {l0 l1 l2 l3 l4 l5 l6 l7 l8 : Option Value} {x : Int32} : G d 244 522 [l0, l1, l2, l3, l4, l5, l6, l7, l8] (.int x :: st) σ Q ↔ if x ≠ 0 then G d 244 532 [l0, l1, l2, l3, l4, l5, l6, l7, l8] st σ Q else G d 244 523 [l0, l1, l2, l3, l4, l5, l6, l7, l8] st σ Q := gs_if f_244_522 rfl
theorem f_244_523 : ft 244 523 = some (925, .aload_n 3, []) := rfl
theorem s_244_523 {d : Nat} {σ : xS} {st : List Value} {Q : xR → xS → Prop} {l0 l1 l2 l4 l5 l6 l7 l8 : Option Value} {x : Nat} : G d 244 523 [l0, l1, l2, some (.ref x), l4, l5, l6, l7, l8] st σ Q ↔ G d 244 524 [l0, l1, l2, some (.ref x), l4, l5, l6, l7, l8] (.ref x :: st) σ Q := gs_go f_244_523 rfl
theorem f_244_524 : ft 244 524 = some (926, .iconst 0, []) := rfl
theorem s_244_524 {d : Nat} {σ : xS} {st : List Value} {Q : xR → xS → Prop} {l0 l1 l2 l3 l4 l5 l6 l7 l8 : Option Value} : G d 244 524 [l0, l1, l2, l3, l4, l5, l6, l7, l8] st σ Q ↔ G d 244 525 [l0, l1, l2, l3, l4, l5, l6, l7, l8] (.int (0) :: st) σ Q := gs_go f_244_524 rfl
theorem f_244_525 : ft 244 525 = some (927, .laload, []) := rfl
theorem s_244_525 {d : Nat} {t : yT} {st : List Value} {Q : xR → xS → Prop} {l0 l1 l2 l3 l4 l5 l6 l7 l8 : Option Value} {a : Nat} {x : Int32} (ha : yLA a) : G d 244 525 [l0, l1, l2, l3, l4, l5, l6, l7, l8] (.int x :: .ref a :: st) (yemb t) Q ↔ yix x (yn a) ∧ G d 244 526 [l0, l1, l2, l3, l4, l5, l6, l7, l8] (.long (t.L a x.toNatClampNeg) :: st) (yemb t) Q := gs_lald f_244_525 ha
theorem f_244_526 : ft 244 526 = some (928, .iload 6, []) := rfl
theorem s_244_526 {d : Nat} {σ : xS} {st : List Value} {Q : xR → xS → Prop} {l0 l1 l2 l3 l4 l5 l7 l8 : Option Value} {x : Int32} : G d 244 526 [l0, l1, l2, l3, l4, l5, some (.int x), l7, l8] st σ Q ↔ G d 244 527 [l0, l1, l2, l3, l4, l5, some (.int x), l7, l8] (.int x :: st) σ Q := gs_go f_244_526 rfl
theorem f_244_527 : ft 244 527 = some (930, .i2l, []) := rfl
theorem s_244_527 {d : Nat} {σ : xS} {st : List Value} {Q : xR → xS → Prop} {l0 l1 l2 l3 l4 l5 l6 l7 l8 : Option Value} {x : Int32} : G d 244 527 [l0, l1, l2, l3, l4, l5, l6, l7, l8] (.int x :: st) σ Q ↔ G d 244 528 [l0, l1, l2, l3, l4, l5, l6, l7, l8] (.long x.toInt64 :: st) σ Q := gs_go f_244_527 rfl
theorem f_244_528 : ft 244 528 = some (931, .lcmp, []) := rfl
theorem s_244_528 {d : Nat} {σ : xS} {st : List Value} {Q : xR → xS → Prop} {l0 l1 l2 l3 l4 l5 l6 l7 l8 : Option Value} {x y : Int64} : G d 244 528 [l0, l1, l2, l3, l4, l5, l6, l7, l8] (.long y :: .long x :: st) σ Q ↔ G d 244 529 [l0, l1, l2, l3, l4, l5, l6, l7, l8] (.int (lg_cmp x y) :: st) σ Q := gs_go f_244_528 rfl
theorem f_244_529 : ft 244 529 = some (932, .ifCond .eq 5, [532]) := rfl
theorem s_244_529 {d : Nat} {σ : xS} {st : List Value} {Q : xR → xS → Prop} {l0 l1 l2 l3 l4 l5 l6 l7 l8 : Option Value} {x : Int32} : G d 244 529 [l0, l1, l2, l3, l4, l5, l6, l7, l8] (.int x :: st) σ Q ↔ if x = 0 then G d 244 532 [l0, l1, l2, l3, l4, l5, l6, l7, l8] st σ Q else G d 244 530 [l0, l1, l2, l3, l4, l5, l6, l7, l8] st σ Q := gs_if f_244_529 rfl
theorem f_244_530 : ft 244 530 = some (935, .iconst 0, []) := rfl
theorem s_244_530 {d : Nat} {σ : xS} {st : List Value} {Q : xR → xS → Prop} {l0 l1 l2 l3 l4 l5 l6 l7 l8 : Option Value} : G d 244 530 [l0, l1, l2, l3, l4, l5, l6, l7, l8] st σ Q ↔ G d 244 531 [l0, l1, l2, l3, l4, l5, l6, l7, l8] (.int (0) :: st) σ Q := gs_go f_244_530 rfl
theorem f_244_531 : ft 244 531 = some (936, .ireturn, []) := rfl
theorem s_244_531 {d : Nat} {σ : xS} {ls : xL} {Q : xR → xS → Prop} {x : Int32} : G d 244 531 ls [.int x] σ Q ↔ ybo x ∧ Q (.inl (some (.int x))) σ := gs_retb f_244_531 rfl
theorem f_244_532 : ft 244 532 = some (937, .goto 549, [879]) := rfl
theorem s_244_532 {d : Nat} {σ : xS} {st : List Value} {Q : xR → xS → Prop} {l0 l1 l2 l3 l4 l5 l6 l7 l8 : Option Value} : G d 244 532 [l0, l1, l2, l3, l4, l5, l6, l7, l8] st σ Q ↔ G d 244 879 [l0, l1, l2, l3, l4, l5, l6, l7, l8] st σ Q := gs_go f_244_532 rfl
theorem f_244_533 : ft 244 533 = some (940, .aload_n 1, []) := rfl
theorem s_244_533 {d : Nat} {σ : xS} {st : List Value} {Q : xR → xS → Prop} {l0 l2 l3 l4 l5 l6 l7 l8 : Option Value} {x : Nat} : G d 244 533 [l0, some (.ref x), l2, l3, l4, l5, l6, l7, l8] st σ Q ↔ G d 244 534 [l0, some (.ref x), l2, l3, l4, l5, l6, l7, l8] (.ref x :: st) σ Q := gs_go f_244_533 rfl
theorem f_244_534 : ft 244 534 = some (941, .aload_n 0, []) := rfl
theorem s_244_534 {d : Nat} {σ : xS} {st : List Value} {Q : xR → xS → Prop} {l1 l2 l3 l4 l5 l6 l7 l8 : Option Value} {x : Nat} : G d 244 534 [some (.ref x), l1, l2, l3, l4, l5, l6, l7, l8] st σ Q ↔ G d 244 535 [some (.ref x), l1, l2, l3, l4, l5, l6, l7, l8] (.ref x :: st) σ Q := gs_go f_244_534 rfl
theorem f_244_535 : ft 244 535 = some (942, .iload 4, []) := rfl
theorem s_244_535 {d : Nat} {σ : xS} {st : List Value} {Q : xR → xS → Prop} {l0 l1 l2 l3 l5 l6 l7 l8 : Option Value} {x : Int32} : G d 244 535 [l0, l1, l2, l3, some (.int x), l5, l6, l7, l8] st σ Q ↔ G d 244 536 [l0, l1, l2, l3, some (.int x), l5, l6, l7, l8] (.int x :: st) σ Q := gs_go f_244_535 rfl
theorem f_244_536 : ft 244 536 = some (944, .iconst 1, []) := rfl
theorem s_244_536 {d : Nat} {σ : xS} {st : List Value} {Q : xR → xS → Prop} {l0 l1 l2 l3 l4 l5 l6 l7 l8 : Option Value} : G d 244 536 [l0, l1, l2, l3, l4, l5, l6, l7, l8] st σ Q ↔ G d 244 537 [l0, l1, l2, l3, l4, l5, l6, l7, l8] (.int (1) :: st) σ Q := gs_go f_244_536 rfl
theorem f_244_537 : ft 244 537 = some (945, .iadd, []) := rfl
theorem s_244_537 {d : Nat} {σ : xS} {st : List Value} {Q : xR → xS → Prop} {l0 l1 l2 l3 l4 l5 l6 l7 l8 : Option Value} {x y : Int32} : G d 244 537 [l0, l1, l2, l3, l4, l5, l6, l7, l8] (.int y :: .int x :: st) σ Q ↔ G d 244 538 [l0, l1, l2, l3, l4, l5, l6, l7, l8] (.int (x + y) :: st) σ Q := gs_go f_244_537 rfl
theorem f_244_538 : ft 244 538 = some (946, .iaload, []) := rfl
theorem s_244_538 {d : Nat} {t : yT} {st : List Value} {Q : xR → xS → Prop} {l0 l1 l2 l3 l4 l5 l6 l7 l8 : Option Value} {a : Nat} {x : Int32} (ha : yA 0 a) : G d 244 538 [l0, l1, l2, l3, l4, l5, l6, l7, l8] (.int x :: .ref a :: st) (yemb t) Q ↔ yix x (yn a) ∧ G d 244 539 [l0, l1, l2, l3, l4, l5, l6, l7, l8] (.int (t.A a x.toNatClampNeg) :: st) (yemb t) Q := gs_iald f_244_538 ha
theorem f_244_539 : ft 244 539 = some (947, .aload_n 3, []) := rfl
theorem s_244_539 {d : Nat} {σ : xS} {st : List Value} {Q : xR → xS → Prop} {l0 l1 l2 l4 l5 l6 l7 l8 : Option Value} {x : Nat} : G d 244 539 [l0, l1, l2, some (.ref x), l4, l5, l6, l7, l8] st σ Q ↔ G d 244 540 [l0, l1, l2, some (.ref x), l4, l5, l6, l7, l8] (.ref x :: st) σ Q := gs_go f_244_539 rfl
theorem f_244_540 : ft 244 540 = some (948, .invokestatic 141, [236, 3, 6, 1080]) := rfl
theorem s_244_540 {d : Nat} {σ : xS} {st : List Value} {Q : xR → xS → Prop} {l0 l1 l2 l3 l4 l5 l6 l7 l8 : Option Value} {a0 : Nat} {a1 : Int32} {a2 : Nat} : G (d + 1) 244 540 [l0, l1, l2, l3, l4, l5, l6, l7, l8] (.ref a2 :: .int a1 :: .ref a0 :: st) σ Q ↔ xcat st ≤ 8 ∧ Cl d 236 [.ref a0, .int a1, .ref a2] σ (Gk (d + 1) 244 540 [l0, l1, l2, l3, l4, l5, l6, l7, l8] st Q) := gs_call f_244_540 ((xinv_call (i := 540) (n := 1080) (ls := [l0, l1, l2, l3, l4, l5, l6, l7, l8]) (kind := 6) (σ := σ) (by decide)).trans (xcall_st [.ref a2, .int a1, .ref a0] rfl (by decide) (show (3 : Nat) ≤ 4 by decide)))
theorem f_244_541 : ft 244 541 = some (951, .istore 5, []) := rfl
theorem s_244_541 {d : Nat} {σ : xS} {st : List Value} {Q : xR → xS → Prop} {l0 l1 l2 l3 l4 l5 l6 l7 l8 : Option Value} {x : Int32} : G d 244 541 [l0, l1, l2, l3, l4, l5, l6, l7, l8] (.int x :: st) σ Q ↔ G d 244 542 [l0, l1, l2, l3, ykl l4, some (.int x), l6, l7, l8] st σ Q := by
  cases l4 with
  | none => exact gs_go f_244_541 rfl
  | some v => cases v <;> exact gs_go f_244_541 rfl
theorem f_244_542 : ft 244 542 = some (953, .aload_n 2, []) := rfl
theorem s_244_542 {d : Nat} {σ : xS} {st : List Value} {Q : xR → xS → Prop} {l0 l1 l3 l4 l5 l6 l7 l8 : Option Value} {x : Nat} : G d 244 542 [l0, l1, some (.ref x), l3, l4, l5, l6, l7, l8] st σ Q ↔ G d 244 543 [l0, l1, some (.ref x), l3, l4, l5, l6, l7, l8] (.ref x :: st) σ Q := gs_go f_244_542 rfl
theorem f_244_543 : ft 244 543 = some (954, .aload_n 0, []) := rfl
theorem s_244_543 {d : Nat} {σ : xS} {st : List Value} {Q : xR → xS → Prop} {l1 l2 l3 l4 l5 l6 l7 l8 : Option Value} {x : Nat} : G d 244 543 [some (.ref x), l1, l2, l3, l4, l5, l6, l7, l8] st σ Q ↔ G d 244 544 [some (.ref x), l1, l2, l3, l4, l5, l6, l7, l8] (.ref x :: st) σ Q := gs_go f_244_543 rfl
theorem f_244_544 : ft 244 544 = some (955, .iload 4, []) := rfl
theorem s_244_544 {d : Nat} {σ : xS} {st : List Value} {Q : xR → xS → Prop} {l0 l1 l2 l3 l5 l6 l7 l8 : Option Value} {x : Int32} : G d 244 544 [l0, l1, l2, l3, some (.int x), l5, l6, l7, l8] st σ Q ↔ G d 244 545 [l0, l1, l2, l3, some (.int x), l5, l6, l7, l8] (.int x :: st) σ Q := gs_go f_244_544 rfl
theorem f_244_545 : ft 244 545 = some (957, .iconst 1, []) := rfl
theorem s_244_545 {d : Nat} {σ : xS} {st : List Value} {Q : xR → xS → Prop} {l0 l1 l2 l3 l4 l5 l6 l7 l8 : Option Value} : G d 244 545 [l0, l1, l2, l3, l4, l5, l6, l7, l8] st σ Q ↔ G d 244 546 [l0, l1, l2, l3, l4, l5, l6, l7, l8] (.int (1) :: st) σ Q := gs_go f_244_545 rfl
theorem f_244_546 : ft 244 546 = some (958, .iadd, []) := rfl
theorem s_244_546 {d : Nat} {σ : xS} {st : List Value} {Q : xR → xS → Prop} {l0 l1 l2 l3 l4 l5 l6 l7 l8 : Option Value} {x y : Int32} : G d 244 546 [l0, l1, l2, l3, l4, l5, l6, l7, l8] (.int y :: .int x :: st) σ Q ↔ G d 244 547 [l0, l1, l2, l3, l4, l5, l6, l7, l8] (.int (x + y) :: st) σ Q := gs_go f_244_546 rfl
theorem f_244_547 : ft 244 547 = some (959, .iaload, []) := rfl
theorem s_244_547 {d : Nat} {t : yT} {st : List Value} {Q : xR → xS → Prop} {l0 l1 l2 l3 l4 l5 l6 l7 l8 : Option Value} {a : Nat} {x : Int32} (ha : yA 0 a) : G d 244 547 [l0, l1, l2, l3, l4, l5, l6, l7, l8] (.int x :: .ref a :: st) (yemb t) Q ↔ yix x (yn a) ∧ G d 244 548 [l0, l1, l2, l3, l4, l5, l6, l7, l8] (.int (t.A a x.toNatClampNeg) :: st) (yemb t) Q := gs_iald f_244_547 ha
theorem f_244_548 : ft 244 548 = some (960, .invokevirtual 143, [205, 2, 0, 1608]) := rfl
theorem s_244_548 {d : Nat} {t : yT} {st : List Value} {Q : xR → xS → Prop} {l0 l1 l2 l3 l4 l5 l6 l7 l8 : Option Value} {a0 : Nat} {a1 : Int32} (ho : yisO 8 a0) : G (d + 1) 244 548 [l0, l1, l2, l3, l4, l5, l6, l7, l8] (.int a1 :: .ref a0 :: st) (yemb t) Q ↔ xcat st ≤ 8 ∧ Cl d 205 [.ref a0, .int a1] (yemb t) (Gk (d + 1) 244 548 [l0, l1, l2, l3, l4, l5, l6, l7, l8] st Q) := gs_call f_244_548 ((xinv_call (i := 548) (n := 1608) (ls := [l0, l1, l2, l3, l4, l5, l6, l7, l8]) (kind := 0) (σ := yemb t) (by decide)).trans (xcall_vi [.int a1, .ref a0] rfl rfl (show (2 : Nat) ≤ 2 by decide) rfl ho))
theorem f_244_549 : ft 244 549 = some (963, .istore 6, []) := rfl
theorem s_244_549 {d : Nat} {σ : xS} {st : List Value} {Q : xR → xS → Prop} {l0 l1 l2 l3 l4 l5 l6 l7 l8 : Option Value} {x : Int32} : G d 244 549 [l0, l1, l2, l3, l4, l5, l6, l7, l8] (.int x :: st) σ Q ↔ G d 244 550 [l0, l1, l2, l3, l4, ykl l5, some (.int x), l7, l8] st σ Q := by
  cases l5 with
  | none => exact gs_go f_244_549 rfl
  | some v => cases v <;> exact gs_go f_244_549 rfl
theorem f_244_550 : ft 244 550 = some (965, .aload_n 2, []) := rfl
theorem s_244_550 {d : Nat} {σ : xS} {st : List Value} {Q : xR → xS → Prop} {l0 l1 l3 l4 l5 l6 l7 l8 : Option Value} {x : Nat} : G d 244 550 [l0, l1, some (.ref x), l3, l4, l5, l6, l7, l8] st σ Q ↔ G d 244 551 [l0, l1, some (.ref x), l3, l4, l5, l6, l7, l8] (.ref x :: st) σ Q := gs_go f_244_550 rfl
theorem f_244_551 : ft 244 551 = some (966, .invokevirtual 91, [123, 1, 0, 1277]) := rfl
theorem s_244_551 {d : Nat} {t : yT} {st : List Value} {Q : xR → xS → Prop} {l0 l1 l2 l3 l4 l5 l6 l7 l8 : Option Value} {a0 : Nat} (ho : yisO 8 a0) : G (d + 1) 244 551 [l0, l1, l2, l3, l4, l5, l6, l7, l8] (.ref a0 :: st) (yemb t) Q ↔ xcat st ≤ 8 ∧ Cl d 123 [.ref a0] (yemb t) (Gk (d + 1) 244 551 [l0, l1, l2, l3, l4, l5, l6, l7, l8] st Q) := gs_call f_244_551 ((xinv_call (i := 551) (n := 1277) (ls := [l0, l1, l2, l3, l4, l5, l6, l7, l8]) (kind := 0) (σ := yemb t) (by decide)).trans (xcall_vi [.ref a0] rfl rfl (show (1 : Nat) ≤ 1 by decide) rfl ho))
theorem f_244_552 : ft 244 552 = some (969, .iload 5, []) := rfl
theorem s_244_552 {d : Nat} {σ : xS} {st : List Value} {Q : xR → xS → Prop} {l0 l1 l2 l3 l4 l6 l7 l8 : Option Value} {x : Int32} : G d 244 552 [l0, l1, l2, l3, l4, some (.int x), l6, l7, l8] st σ Q ↔ G d 244 553 [l0, l1, l2, l3, l4, some (.int x), l6, l7, l8] (.int x :: st) σ Q := gs_go f_244_552 rfl
theorem f_244_553 : ft 244 553 = some (971, .if_icmp .eq 5, [556]) := rfl
theorem s_244_553 {d : Nat} {σ : xS} {st : List Value} {Q : xR → xS → Prop} {l0 l1 l2 l3 l4 l5 l6 l7 l8 : Option Value} {x y : Int32} : G d 244 553 [l0, l1, l2, l3, l4, l5, l6, l7, l8] (.int y :: .int x :: st) σ Q ↔ if x = y then G d 244 556 [l0, l1, l2, l3, l4, l5, l6, l7, l8] st σ Q else G d 244 554 [l0, l1, l2, l3, l4, l5, l6, l7, l8] st σ Q := gs_if f_244_553 rfl
theorem f_244_554 : ft 244 554 = some (974, .iconst 0, []) := rfl
theorem s_244_554 {d : Nat} {σ : xS} {st : List Value} {Q : xR → xS → Prop} {l0 l1 l2 l3 l4 l5 l6 l7 l8 : Option Value} : G d 244 554 [l0, l1, l2, l3, l4, l5, l6, l7, l8] st σ Q ↔ G d 244 555 [l0, l1, l2, l3, l4, l5, l6, l7, l8] (.int (0) :: st) σ Q := gs_go f_244_554 rfl
theorem f_244_555 : ft 244 555 = some (975, .ireturn, []) := rfl
theorem s_244_555 {d : Nat} {σ : xS} {ls : xL} {Q : xR → xS → Prop} {x : Int32} : G d 244 555 ls [.int x] σ Q ↔ ybo x ∧ Q (.inl (some (.int x))) σ := gs_retb f_244_555 rfl
theorem f_244_556 : ft 244 556 = some (976, .iload 5, []) := rfl
theorem s_244_556 {d : Nat} {σ : xS} {st : List Value} {Q : xR → xS → Prop} {l0 l1 l2 l3 l4 l6 l7 l8 : Option Value} {x : Int32} : G d 244 556 [l0, l1, l2, l3, l4, some (.int x), l6, l7, l8] st σ Q ↔ G d 244 557 [l0, l1, l2, l3, l4, some (.int x), l6, l7, l8] (.int x :: st) σ Q := gs_go f_244_556 rfl
theorem f_244_557 : ft 244 557 = some (978, .ifCond .ne 15, [567]) := rfl
theorem s_244_557 {d : Nat} {σ : xS} {st : List Value} {Q : xR → xS → Prop} {l0 l1 l2 l3 l4 l5 l6 l7 l8 : Option Value} {x : Int32} : G d 244 557 [l0, l1, l2, l3, l4, l5, l6, l7, l8] (.int x :: st) σ Q ↔ if x ≠ 0 then G d 244 567 [l0, l1, l2, l3, l4, l5, l6, l7, l8] st σ Q else G d 244 558 [l0, l1, l2, l3, l4, l5, l6, l7, l8] st σ Q := gs_if f_244_557 rfl
theorem f_244_558 : ft 244 558 = some (981, .aload_n 3, []) := rfl
theorem s_244_558 {d : Nat} {σ : xS} {st : List Value} {Q : xR → xS → Prop} {l0 l1 l2 l4 l5 l6 l7 l8 : Option Value} {x : Nat} : G d 244 558 [l0, l1, l2, some (.ref x), l4, l5, l6, l7, l8] st σ Q ↔ G d 244 559 [l0, l1, l2, some (.ref x), l4, l5, l6, l7, l8] (.ref x :: st) σ Q := gs_go f_244_558 rfl
theorem f_244_559 : ft 244 559 = some (982, .iconst 0, []) := rfl
theorem s_244_559 {d : Nat} {σ : xS} {st : List Value} {Q : xR → xS → Prop} {l0 l1 l2 l3 l4 l5 l6 l7 l8 : Option Value} : G d 244 559 [l0, l1, l2, l3, l4, l5, l6, l7, l8] st σ Q ↔ G d 244 560 [l0, l1, l2, l3, l4, l5, l6, l7, l8] (.int (0) :: st) σ Q := gs_go f_244_559 rfl
theorem f_244_560 : ft 244 560 = some (983, .laload, []) := rfl
theorem s_244_560 {d : Nat} {t : yT} {st : List Value} {Q : xR → xS → Prop} {l0 l1 l2 l3 l4 l5 l6 l7 l8 : Option Value} {a : Nat} {x : Int32} (ha : yLA a) : G d 244 560 [l0, l1, l2, l3, l4, l5, l6, l7, l8] (.int x :: .ref a :: st) (yemb t) Q ↔ yix x (yn a) ∧ G d 244 561 [l0, l1, l2, l3, l4, l5, l6, l7, l8] (.long (t.L a x.toNatClampNeg) :: st) (yemb t) Q := gs_lald f_244_560 ha
theorem f_244_561 : ft 244 561 = some (984, .iload 6, []) := rfl
theorem s_244_561 {d : Nat} {σ : xS} {st : List Value} {Q : xR → xS → Prop} {l0 l1 l2 l3 l4 l5 l7 l8 : Option Value} {x : Int32} : G d 244 561 [l0, l1, l2, l3, l4, l5, some (.int x), l7, l8] st σ Q ↔ G d 244 562 [l0, l1, l2, l3, l4, l5, some (.int x), l7, l8] (.int x :: st) σ Q := gs_go f_244_561 rfl
theorem f_244_562 : ft 244 562 = some (986, .i2l, []) := rfl
theorem s_244_562 {d : Nat} {σ : xS} {st : List Value} {Q : xR → xS → Prop} {l0 l1 l2 l3 l4 l5 l6 l7 l8 : Option Value} {x : Int32} : G d 244 562 [l0, l1, l2, l3, l4, l5, l6, l7, l8] (.int x :: st) σ Q ↔ G d 244 563 [l0, l1, l2, l3, l4, l5, l6, l7, l8] (.long x.toInt64 :: st) σ Q := gs_go f_244_562 rfl
theorem f_244_563 : ft 244 563 = some (987, .lcmp, []) := rfl
theorem s_244_563 {d : Nat} {σ : xS} {st : List Value} {Q : xR → xS → Prop} {l0 l1 l2 l3 l4 l5 l6 l7 l8 : Option Value} {x y : Int64} : G d 244 563 [l0, l1, l2, l3, l4, l5, l6, l7, l8] (.long y :: .long x :: st) σ Q ↔ G d 244 564 [l0, l1, l2, l3, l4, l5, l6, l7, l8] (.int (lg_cmp x y) :: st) σ Q := gs_go f_244_563 rfl
theorem f_244_564 : ft 244 564 = some (988, .ifCond .eq 5, [567]) := rfl
theorem s_244_564 {d : Nat} {σ : xS} {st : List Value} {Q : xR → xS → Prop} {l0 l1 l2 l3 l4 l5 l6 l7 l8 : Option Value} {x : Int32} : G d 244 564 [l0, l1, l2, l3, l4, l5, l6, l7, l8] (.int x :: st) σ Q ↔ if x = 0 then G d 244 567 [l0, l1, l2, l3, l4, l5, l6, l7, l8] st σ Q else G d 244 565 [l0, l1, l2, l3, l4, l5, l6, l7, l8] st σ Q := gs_if f_244_564 rfl
theorem f_244_565 : ft 244 565 = some (991, .iconst 0, []) := rfl
theorem s_244_565 {d : Nat} {σ : xS} {st : List Value} {Q : xR → xS → Prop} {l0 l1 l2 l3 l4 l5 l6 l7 l8 : Option Value} : G d 244 565 [l0, l1, l2, l3, l4, l5, l6, l7, l8] st σ Q ↔ G d 244 566 [l0, l1, l2, l3, l4, l5, l6, l7, l8] (.int (0) :: st) σ Q := gs_go f_244_565 rfl
theorem f_244_566 : ft 244 566 = some (992, .ireturn, []) := rfl
theorem s_244_566 {d : Nat} {σ : xS} {ls : xL} {Q : xR → xS → Prop} {x : Int32} : G d 244 566 ls [.int x] σ Q ↔ ybo x ∧ Q (.inl (some (.int x))) σ := gs_retb f_244_566 rfl
theorem f_244_567 : ft 244 567 = some (993, .goto 493, [879]) := rfl
theorem s_244_567 {d : Nat} {σ : xS} {st : List Value} {Q : xR → xS → Prop} {l0 l1 l2 l3 l4 l5 l6 l7 l8 : Option Value} : G d 244 567 [l0, l1, l2, l3, l4, l5, l6, l7, l8] st σ Q ↔ G d 244 879 [l0, l1, l2, l3, l4, l5, l6, l7, l8] st σ Q := gs_go f_244_567 rfl
theorem f_244_568 : ft 244 568 = some (996, .aload_n 1, []) := rfl
theorem s_244_568 {d : Nat} {σ : xS} {st : List Value} {Q : xR → xS → Prop} {l0 l2 l3 l4 l5 l6 l7 l8 : Option Value} {x : Nat} : G d 244 568 [l0, some (.ref x), l2, l3, l4, l5, l6, l7, l8] st σ Q ↔ G d 244 569 [l0, some (.ref x), l2, l3, l4, l5, l6, l7, l8] (.ref x :: st) σ Q := gs_go f_244_568 rfl
theorem f_244_569 : ft 244 569 = some (997, .aload_n 0, []) := rfl
theorem s_244_569 {d : Nat} {σ : xS} {st : List Value} {Q : xR → xS → Prop} {l1 l2 l3 l4 l5 l6 l7 l8 : Option Value} {x : Nat} : G d 244 569 [some (.ref x), l1, l2, l3, l4, l5, l6, l7, l8] st σ Q ↔ G d 244 570 [some (.ref x), l1, l2, l3, l4, l5, l6, l7, l8] (.ref x :: st) σ Q := gs_go f_244_569 rfl
theorem f_244_570 : ft 244 570 = some (998, .iload 4, []) := rfl
theorem s_244_570 {d : Nat} {σ : xS} {st : List Value} {Q : xR → xS → Prop} {l0 l1 l2 l3 l5 l6 l7 l8 : Option Value} {x : Int32} : G d 244 570 [l0, l1, l2, l3, some (.int x), l5, l6, l7, l8] st σ Q ↔ G d 244 571 [l0, l1, l2, l3, some (.int x), l5, l6, l7, l8] (.int x :: st) σ Q := gs_go f_244_570 rfl
theorem f_244_571 : ft 244 571 = some (1000, .iconst 1, []) := rfl
theorem s_244_571 {d : Nat} {σ : xS} {st : List Value} {Q : xR → xS → Prop} {l0 l1 l2 l3 l4 l5 l6 l7 l8 : Option Value} : G d 244 571 [l0, l1, l2, l3, l4, l5, l6, l7, l8] st σ Q ↔ G d 244 572 [l0, l1, l2, l3, l4, l5, l6, l7, l8] (.int (1) :: st) σ Q := gs_go f_244_571 rfl
theorem f_244_572 : ft 244 572 = some (1001, .iadd, []) := rfl
theorem s_244_572 {d : Nat} {σ : xS} {st : List Value} {Q : xR → xS → Prop} {l0 l1 l2 l3 l4 l5 l6 l7 l8 : Option Value} {x y : Int32} : G d 244 572 [l0, l1, l2, l3, l4, l5, l6, l7, l8] (.int y :: .int x :: st) σ Q ↔ G d 244 573 [l0, l1, l2, l3, l4, l5, l6, l7, l8] (.int (x + y) :: st) σ Q := gs_go f_244_572 rfl
theorem f_244_573 : ft 244 573 = some (1002, .iaload, []) := rfl
theorem s_244_573 {d : Nat} {t : yT} {st : List Value} {Q : xR → xS → Prop} {l0 l1 l2 l3 l4 l5 l6 l7 l8 : Option Value} {a : Nat} {x : Int32} (ha : yA 0 a) : G d 244 573 [l0, l1, l2, l3, l4, l5, l6, l7, l8] (.int x :: .ref a :: st) (yemb t) Q ↔ yix x (yn a) ∧ G d 244 574 [l0, l1, l2, l3, l4, l5, l6, l7, l8] (.int (t.A a x.toNatClampNeg) :: st) (yemb t) Q := gs_iald f_244_573 ha
theorem f_244_574 : ft 244 574 = some (1003, .aload_n 3, []) := rfl
theorem s_244_574 {d : Nat} {σ : xS} {st : List Value} {Q : xR → xS → Prop} {l0 l1 l2 l4 l5 l6 l7 l8 : Option Value} {x : Nat} : G d 244 574 [l0, l1, l2, some (.ref x), l4, l5, l6, l7, l8] st σ Q ↔ G d 244 575 [l0, l1, l2, some (.ref x), l4, l5, l6, l7, l8] (.ref x :: st) σ Q := gs_go f_244_574 rfl
theorem f_244_575 : ft 244 575 = some (1004, .invokestatic 144, [237, 3, 6, 1088]) := rfl
theorem s_244_575 {d : Nat} {σ : xS} {st : List Value} {Q : xR → xS → Prop} {l0 l1 l2 l3 l4 l5 l6 l7 l8 : Option Value} {a0 : Nat} {a1 : Int32} {a2 : Nat} : G (d + 1) 244 575 [l0, l1, l2, l3, l4, l5, l6, l7, l8] (.ref a2 :: .int a1 :: .ref a0 :: st) σ Q ↔ xcat st ≤ 8 ∧ Cl d 237 [.ref a0, .int a1, .ref a2] σ (Gk (d + 1) 244 575 [l0, l1, l2, l3, l4, l5, l6, l7, l8] st Q) := gs_call f_244_575 ((xinv_call (i := 575) (n := 1088) (ls := [l0, l1, l2, l3, l4, l5, l6, l7, l8]) (kind := 6) (σ := σ) (by decide)).trans (xcall_st [.ref a2, .int a1, .ref a0] rfl (by decide) (show (3 : Nat) ≤ 4 by decide)))
theorem f_244_576 : ft 244 576 = some (1007, .istore 5, []) := rfl
theorem s_244_576 {d : Nat} {σ : xS} {st : List Value} {Q : xR → xS → Prop} {l0 l1 l2 l3 l4 l5 l6 l7 l8 : Option Value} {x : Int32} : G d 244 576 [l0, l1, l2, l3, l4, l5, l6, l7, l8] (.int x :: st) σ Q ↔ G d 244 577 [l0, l1, l2, l3, ykl l4, some (.int x), l6, l7, l8] st σ Q := by
  cases l4 with
  | none => exact gs_go f_244_576 rfl
  | some v => cases v <;> exact gs_go f_244_576 rfl
theorem f_244_577 : ft 244 577 = some (1009, .aload_n 2, []) := rfl
theorem s_244_577 {d : Nat} {σ : xS} {st : List Value} {Q : xR → xS → Prop} {l0 l1 l3 l4 l5 l6 l7 l8 : Option Value} {x : Nat} : G d 244 577 [l0, l1, some (.ref x), l3, l4, l5, l6, l7, l8] st σ Q ↔ G d 244 578 [l0, l1, some (.ref x), l3, l4, l5, l6, l7, l8] (.ref x :: st) σ Q := gs_go f_244_577 rfl
theorem f_244_578 : ft 244 578 = some (1010, .aload_n 0, []) := rfl
theorem s_244_578 {d : Nat} {σ : xS} {st : List Value} {Q : xR → xS → Prop} {l1 l2 l3 l4 l5 l6 l7 l8 : Option Value} {x : Nat} : G d 244 578 [some (.ref x), l1, l2, l3, l4, l5, l6, l7, l8] st σ Q ↔ G d 244 579 [some (.ref x), l1, l2, l3, l4, l5, l6, l7, l8] (.ref x :: st) σ Q := gs_go f_244_578 rfl
theorem f_244_579 : ft 244 579 = some (1011, .iload 4, []) := rfl
theorem s_244_579 {d : Nat} {σ : xS} {st : List Value} {Q : xR → xS → Prop} {l0 l1 l2 l3 l5 l6 l7 l8 : Option Value} {x : Int32} : G d 244 579 [l0, l1, l2, l3, some (.int x), l5, l6, l7, l8] st σ Q ↔ G d 244 580 [l0, l1, l2, l3, some (.int x), l5, l6, l7, l8] (.int x :: st) σ Q := gs_go f_244_579 rfl
theorem f_244_580 : ft 244 580 = some (1013, .iconst 1, []) := rfl
theorem s_244_580 {d : Nat} {σ : xS} {st : List Value} {Q : xR → xS → Prop} {l0 l1 l2 l3 l4 l5 l6 l7 l8 : Option Value} : G d 244 580 [l0, l1, l2, l3, l4, l5, l6, l7, l8] st σ Q ↔ G d 244 581 [l0, l1, l2, l3, l4, l5, l6, l7, l8] (.int (1) :: st) σ Q := gs_go f_244_580 rfl
theorem f_244_581 : ft 244 581 = some (1014, .iadd, []) := rfl
theorem s_244_581 {d : Nat} {σ : xS} {st : List Value} {Q : xR → xS → Prop} {l0 l1 l2 l3 l4 l5 l6 l7 l8 : Option Value} {x y : Int32} : G d 244 581 [l0, l1, l2, l3, l4, l5, l6, l7, l8] (.int y :: .int x :: st) σ Q ↔ G d 244 582 [l0, l1, l2, l3, l4, l5, l6, l7, l8] (.int (x + y) :: st) σ Q := gs_go f_244_581 rfl
theorem f_244_582 : ft 244 582 = some (1015, .iaload, []) := rfl
theorem s_244_582 {d : Nat} {t : yT} {st : List Value} {Q : xR → xS → Prop} {l0 l1 l2 l3 l4 l5 l6 l7 l8 : Option Value} {a : Nat} {x : Int32} (ha : yA 0 a) : G d 244 582 [l0, l1, l2, l3, l4, l5, l6, l7, l8] (.int x :: .ref a :: st) (yemb t) Q ↔ yix x (yn a) ∧ G d 244 583 [l0, l1, l2, l3, l4, l5, l6, l7, l8] (.int (t.A a x.toNatClampNeg) :: st) (yemb t) Q := gs_iald f_244_582 ha
theorem f_244_583 : ft 244 583 = some (1016, .invokevirtual 146, [206, 2, 0, 1612]) := rfl
theorem s_244_583 {d : Nat} {t : yT} {st : List Value} {Q : xR → xS → Prop} {l0 l1 l2 l3 l4 l5 l6 l7 l8 : Option Value} {a0 : Nat} {a1 : Int32} (ho : yisO 8 a0) : G (d + 1) 244 583 [l0, l1, l2, l3, l4, l5, l6, l7, l8] (.int a1 :: .ref a0 :: st) (yemb t) Q ↔ xcat st ≤ 8 ∧ Cl d 206 [.ref a0, .int a1] (yemb t) (Gk (d + 1) 244 583 [l0, l1, l2, l3, l4, l5, l6, l7, l8] st Q) := gs_call f_244_583 ((xinv_call (i := 583) (n := 1612) (ls := [l0, l1, l2, l3, l4, l5, l6, l7, l8]) (kind := 0) (σ := yemb t) (by decide)).trans (xcall_vi [.int a1, .ref a0] rfl rfl (show (2 : Nat) ≤ 3 by decide) rfl ho))
theorem f_244_584 : ft 244 584 = some (1019, .istore 6, []) := rfl
theorem s_244_584 {d : Nat} {σ : xS} {st : List Value} {Q : xR → xS → Prop} {l0 l1 l2 l3 l4 l5 l6 l7 l8 : Option Value} {x : Int32} : G d 244 584 [l0, l1, l2, l3, l4, l5, l6, l7, l8] (.int x :: st) σ Q ↔ G d 244 585 [l0, l1, l2, l3, l4, ykl l5, some (.int x), l7, l8] st σ Q := by
  cases l5 with
  | none => exact gs_go f_244_584 rfl
  | some v => cases v <;> exact gs_go f_244_584 rfl
theorem f_244_585 : ft 244 585 = some (1021, .aload_n 2, []) := rfl
theorem s_244_585 {d : Nat} {σ : xS} {st : List Value} {Q : xR → xS → Prop} {l0 l1 l3 l4 l5 l6 l7 l8 : Option Value} {x : Nat} : G d 244 585 [l0, l1, some (.ref x), l3, l4, l5, l6, l7, l8] st σ Q ↔ G d 244 586 [l0, l1, some (.ref x), l3, l4, l5, l6, l7, l8] (.ref x :: st) σ Q := gs_go f_244_585 rfl
theorem f_244_586 : ft 244 586 = some (1022, .invokevirtual 91, [123, 1, 0, 1277]) := rfl
theorem s_244_586 {d : Nat} {t : yT} {st : List Value} {Q : xR → xS → Prop} {l0 l1 l2 l3 l4 l5 l6 l7 l8 : Option Value} {a0 : Nat} (ho : yisO 8 a0) : G (d + 1) 244 586 [l0, l1, l2, l3, l4, l5, l6, l7, l8] (.ref a0 :: st) (yemb t) Q ↔ xcat st ≤ 8 ∧ Cl d 123 [.ref a0] (yemb t) (Gk (d + 1) 244 586 [l0, l1, l2, l3, l4, l5, l6, l7, l8] st Q) := gs_call f_244_586 ((xinv_call (i := 586) (n := 1277) (ls := [l0, l1, l2, l3, l4, l5, l6, l7, l8]) (kind := 0) (σ := yemb t) (by decide)).trans (xcall_vi [.ref a0] rfl rfl (show (1 : Nat) ≤ 1 by decide) rfl ho))
theorem f_244_587 : ft 244 587 = some (1025, .iload 5, []) := rfl
theorem s_244_587 {d : Nat} {σ : xS} {st : List Value} {Q : xR → xS → Prop} {l0 l1 l2 l3 l4 l6 l7 l8 : Option Value} {x : Int32} : G d 244 587 [l0, l1, l2, l3, l4, some (.int x), l6, l7, l8] st σ Q ↔ G d 244 588 [l0, l1, l2, l3, l4, some (.int x), l6, l7, l8] (.int x :: st) σ Q := gs_go f_244_587 rfl
theorem f_244_588 : ft 244 588 = some (1027, .if_icmp .eq 5, [591]) := rfl
theorem s_244_588 {d : Nat} {σ : xS} {st : List Value} {Q : xR → xS → Prop} {l0 l1 l2 l3 l4 l5 l6 l7 l8 : Option Value} {x y : Int32} : G d 244 588 [l0, l1, l2, l3, l4, l5, l6, l7, l8] (.int y :: .int x :: st) σ Q ↔ if x = y then G d 244 591 [l0, l1, l2, l3, l4, l5, l6, l7, l8] st σ Q else G d 244 589 [l0, l1, l2, l3, l4, l5, l6, l7, l8] st σ Q := gs_if f_244_588 rfl
theorem f_244_589 : ft 244 589 = some (1030, .iconst 0, []) := rfl
theorem s_244_589 {d : Nat} {σ : xS} {st : List Value} {Q : xR → xS → Prop} {l0 l1 l2 l3 l4 l5 l6 l7 l8 : Option Value} : G d 244 589 [l0, l1, l2, l3, l4, l5, l6, l7, l8] st σ Q ↔ G d 244 590 [l0, l1, l2, l3, l4, l5, l6, l7, l8] (.int (0) :: st) σ Q := gs_go f_244_589 rfl
theorem f_244_590 : ft 244 590 = some (1031, .ireturn, []) := rfl
theorem s_244_590 {d : Nat} {σ : xS} {ls : xL} {Q : xR → xS → Prop} {x : Int32} : G d 244 590 ls [.int x] σ Q ↔ ybo x ∧ Q (.inl (some (.int x))) σ := gs_retb f_244_590 rfl
theorem f_244_591 : ft 244 591 = some (1032, .iload 5, []) := rfl
theorem s_244_591 {d : Nat} {σ : xS} {st : List Value} {Q : xR → xS → Prop} {l0 l1 l2 l3 l4 l6 l7 l8 : Option Value} {x : Int32} : G d 244 591 [l0, l1, l2, l3, l4, some (.int x), l6, l7, l8] st σ Q ↔ G d 244 592 [l0, l1, l2, l3, l4, some (.int x), l6, l7, l8] (.int x :: st) σ Q := gs_go f_244_591 rfl
theorem f_244_592 : ft 244 592 = some (1034, .ifCond .ne 15, [602]) := rfl
theorem s_244_592 {d : Nat} {σ : xS} {st : List Value} {Q : xR → xS → Prop} {l0 l1 l2 l3 l4 l5 l6 l7 l8 : Option Value} {x : Int32} : G d 244 592 [l0, l1, l2, l3, l4, l5, l6, l7, l8] (.int x :: st) σ Q ↔ if x ≠ 0 then G d 244 602 [l0, l1, l2, l3, l4, l5, l6, l7, l8] st σ Q else G d 244 593 [l0, l1, l2, l3, l4, l5, l6, l7, l8] st σ Q := gs_if f_244_592 rfl
theorem f_244_593 : ft 244 593 = some (1037, .aload_n 3, []) := rfl
theorem s_244_593 {d : Nat} {σ : xS} {st : List Value} {Q : xR → xS → Prop} {l0 l1 l2 l4 l5 l6 l7 l8 : Option Value} {x : Nat} : G d 244 593 [l0, l1, l2, some (.ref x), l4, l5, l6, l7, l8] st σ Q ↔ G d 244 594 [l0, l1, l2, some (.ref x), l4, l5, l6, l7, l8] (.ref x :: st) σ Q := gs_go f_244_593 rfl
theorem f_244_594 : ft 244 594 = some (1038, .iconst 0, []) := rfl
theorem s_244_594 {d : Nat} {σ : xS} {st : List Value} {Q : xR → xS → Prop} {l0 l1 l2 l3 l4 l5 l6 l7 l8 : Option Value} : G d 244 594 [l0, l1, l2, l3, l4, l5, l6, l7, l8] st σ Q ↔ G d 244 595 [l0, l1, l2, l3, l4, l5, l6, l7, l8] (.int (0) :: st) σ Q := gs_go f_244_594 rfl
theorem f_244_595 : ft 244 595 = some (1039, .laload, []) := rfl
theorem s_244_595 {d : Nat} {t : yT} {st : List Value} {Q : xR → xS → Prop} {l0 l1 l2 l3 l4 l5 l6 l7 l8 : Option Value} {a : Nat} {x : Int32} (ha : yLA a) : G d 244 595 [l0, l1, l2, l3, l4, l5, l6, l7, l8] (.int x :: .ref a :: st) (yemb t) Q ↔ yix x (yn a) ∧ G d 244 596 [l0, l1, l2, l3, l4, l5, l6, l7, l8] (.long (t.L a x.toNatClampNeg) :: st) (yemb t) Q := gs_lald f_244_595 ha
theorem f_244_596 : ft 244 596 = some (1040, .iload 6, []) := rfl
theorem s_244_596 {d : Nat} {σ : xS} {st : List Value} {Q : xR → xS → Prop} {l0 l1 l2 l3 l4 l5 l7 l8 : Option Value} {x : Int32} : G d 244 596 [l0, l1, l2, l3, l4, l5, some (.int x), l7, l8] st σ Q ↔ G d 244 597 [l0, l1, l2, l3, l4, l5, some (.int x), l7, l8] (.int x :: st) σ Q := gs_go f_244_596 rfl
theorem f_244_597 : ft 244 597 = some (1042, .i2l, []) := rfl
theorem s_244_597 {d : Nat} {σ : xS} {st : List Value} {Q : xR → xS → Prop} {l0 l1 l2 l3 l4 l5 l6 l7 l8 : Option Value} {x : Int32} : G d 244 597 [l0, l1, l2, l3, l4, l5, l6, l7, l8] (.int x :: st) σ Q ↔ G d 244 598 [l0, l1, l2, l3, l4, l5, l6, l7, l8] (.long x.toInt64 :: st) σ Q := gs_go f_244_597 rfl
theorem f_244_598 : ft 244 598 = some (1043, .lcmp, []) := rfl
theorem s_244_598 {d : Nat} {σ : xS} {st : List Value} {Q : xR → xS → Prop} {l0 l1 l2 l3 l4 l5 l6 l7 l8 : Option Value} {x y : Int64} : G d 244 598 [l0, l1, l2, l3, l4, l5, l6, l7, l8] (.long y :: .long x :: st) σ Q ↔ G d 244 599 [l0, l1, l2, l3, l4, l5, l6, l7, l8] (.int (lg_cmp x y) :: st) σ Q := gs_go f_244_598 rfl
theorem f_244_599 : ft 244 599 = some (1044, .ifCond .eq 5, [602]) := rfl
theorem s_244_599 {d : Nat} {σ : xS} {st : List Value} {Q : xR → xS → Prop} {l0 l1 l2 l3 l4 l5 l6 l7 l8 : Option Value} {x : Int32} : G d 244 599 [l0, l1, l2, l3, l4, l5, l6, l7, l8] (.int x :: st) σ Q ↔ if x = 0 then G d 244 602 [l0, l1, l2, l3, l4, l5, l6, l7, l8] st σ Q else G d 244 600 [l0, l1, l2, l3, l4, l5, l6, l7, l8] st σ Q := gs_if f_244_599 rfl
theorem f_244_600 : ft 244 600 = some (1047, .iconst 0, []) := rfl
theorem s_244_600 {d : Nat} {σ : xS} {st : List Value} {Q : xR → xS → Prop} {l0 l1 l2 l3 l4 l5 l6 l7 l8 : Option Value} : G d 244 600 [l0, l1, l2, l3, l4, l5, l6, l7, l8] st σ Q ↔ G d 244 601 [l0, l1, l2, l3, l4, l5, l6, l7, l8] (.int (0) :: st) σ Q := gs_go f_244_600 rfl
theorem f_244_601 : ft 244 601 = some (1048, .ireturn, []) := rfl
theorem s_244_601 {d : Nat} {σ : xS} {ls : xL} {Q : xR → xS → Prop} {x : Int32} : G d 244 601 ls [.int x] σ Q ↔ ybo x ∧ Q (.inl (some (.int x))) σ := gs_retb f_244_601 rfl
theorem f_244_602 : ft 244 602 = some (1049, .goto 437, [879]) := rfl
theorem s_244_602 {d : Nat} {σ : xS} {st : List Value} {Q : xR → xS → Prop} {l0 l1 l2 l3 l4 l5 l6 l7 l8 : Option Value} : G d 244 602 [l0, l1, l2, l3, l4, l5, l6, l7, l8] st σ Q ↔ G d 244 879 [l0, l1, l2, l3, l4, l5, l6, l7, l8] st σ Q := gs_go f_244_602 rfl
theorem f_244_603 : ft 244 603 = some (1052, .aload_n 1, []) := rfl
theorem s_244_603 {d : Nat} {σ : xS} {st : List Value} {Q : xR → xS → Prop} {l0 l2 l3 l4 l5 l6 l7 l8 : Option Value} {x : Nat} : G d 244 603 [l0, some (.ref x), l2, l3, l4, l5, l6, l7, l8] st σ Q ↔ G d 244 604 [l0, some (.ref x), l2, l3, l4, l5, l6, l7, l8] (.ref x :: st) σ Q := gs_go f_244_603 rfl
theorem f_244_604 : ft 244 604 = some (1053, .aload_n 0, []) := rfl
theorem s_244_604 {d : Nat} {σ : xS} {st : List Value} {Q : xR → xS → Prop} {l1 l2 l3 l4 l5 l6 l7 l8 : Option Value} {x : Nat} : G d 244 604 [some (.ref x), l1, l2, l3, l4, l5, l6, l7, l8] st σ Q ↔ G d 244 605 [some (.ref x), l1, l2, l3, l4, l5, l6, l7, l8] (.ref x :: st) σ Q := gs_go f_244_604 rfl
theorem f_244_605 : ft 244 605 = some (1054, .iload 4, []) := rfl
theorem s_244_605 {d : Nat} {σ : xS} {st : List Value} {Q : xR → xS → Prop} {l0 l1 l2 l3 l5 l6 l7 l8 : Option Value} {x : Int32} : G d 244 605 [l0, l1, l2, l3, some (.int x), l5, l6, l7, l8] st σ Q ↔ G d 244 606 [l0, l1, l2, l3, some (.int x), l5, l6, l7, l8] (.int x :: st) σ Q := gs_go f_244_605 rfl
theorem f_244_606 : ft 244 606 = some (1056, .iconst 1, []) := rfl
theorem s_244_606 {d : Nat} {σ : xS} {st : List Value} {Q : xR → xS → Prop} {l0 l1 l2 l3 l4 l5 l6 l7 l8 : Option Value} : G d 244 606 [l0, l1, l2, l3, l4, l5, l6, l7, l8] st σ Q ↔ G d 244 607 [l0, l1, l2, l3, l4, l5, l6, l7, l8] (.int (1) :: st) σ Q := gs_go f_244_606 rfl
theorem f_244_607 : ft 244 607 = some (1057, .iadd, []) := rfl
theorem s_244_607 {d : Nat} {σ : xS} {st : List Value} {Q : xR → xS → Prop} {l0 l1 l2 l3 l4 l5 l6 l7 l8 : Option Value} {x y : Int32} : G d 244 607 [l0, l1, l2, l3, l4, l5, l6, l7, l8] (.int y :: .int x :: st) σ Q ↔ G d 244 608 [l0, l1, l2, l3, l4, l5, l6, l7, l8] (.int (x + y) :: st) σ Q := gs_go f_244_607 rfl
theorem f_244_608 : ft 244 608 = some (1058, .iaload, []) := rfl
theorem s_244_608 {d : Nat} {t : yT} {st : List Value} {Q : xR → xS → Prop} {l0 l1 l2 l3 l4 l5 l6 l7 l8 : Option Value} {a : Nat} {x : Int32} (ha : yA 0 a) : G d 244 608 [l0, l1, l2, l3, l4, l5, l6, l7, l8] (.int x :: .ref a :: st) (yemb t) Q ↔ yix x (yn a) ∧ G d 244 609 [l0, l1, l2, l3, l4, l5, l6, l7, l8] (.int (t.A a x.toNatClampNeg) :: st) (yemb t) Q := gs_iald f_244_608 ha
theorem f_244_609 : ft 244 609 = some (1059, .aload_n 3, []) := rfl
theorem s_244_609 {d : Nat} {σ : xS} {st : List Value} {Q : xR → xS → Prop} {l0 l1 l2 l4 l5 l6 l7 l8 : Option Value} {x : Nat} : G d 244 609 [l0, l1, l2, some (.ref x), l4, l5, l6, l7, l8] st σ Q ↔ G d 244 610 [l0, l1, l2, some (.ref x), l4, l5, l6, l7, l8] (.ref x :: st) σ Q := gs_go f_244_609 rfl
theorem f_244_610 : ft 244 610 = some (1060, .invokestatic 147, [238, 3, 6, 1096]) := rfl
theorem s_244_610 {d : Nat} {σ : xS} {st : List Value} {Q : xR → xS → Prop} {l0 l1 l2 l3 l4 l5 l6 l7 l8 : Option Value} {a0 : Nat} {a1 : Int32} {a2 : Nat} : G (d + 1) 244 610 [l0, l1, l2, l3, l4, l5, l6, l7, l8] (.ref a2 :: .int a1 :: .ref a0 :: st) σ Q ↔ xcat st ≤ 8 ∧ Cl d 238 [.ref a0, .int a1, .ref a2] σ (Gk (d + 1) 244 610 [l0, l1, l2, l3, l4, l5, l6, l7, l8] st Q) := gs_call f_244_610 ((xinv_call (i := 610) (n := 1096) (ls := [l0, l1, l2, l3, l4, l5, l6, l7, l8]) (kind := 6) (σ := σ) (by decide)).trans (xcall_st [.ref a2, .int a1, .ref a0] rfl (by decide) (show (3 : Nat) ≤ 4 by decide)))
theorem f_244_611 : ft 244 611 = some (1063, .istore 5, []) := rfl
theorem s_244_611 {d : Nat} {σ : xS} {st : List Value} {Q : xR → xS → Prop} {l0 l1 l2 l3 l4 l5 l6 l7 l8 : Option Value} {x : Int32} : G d 244 611 [l0, l1, l2, l3, l4, l5, l6, l7, l8] (.int x :: st) σ Q ↔ G d 244 612 [l0, l1, l2, l3, ykl l4, some (.int x), l6, l7, l8] st σ Q := by
  cases l4 with
  | none => exact gs_go f_244_611 rfl
  | some v => cases v <;> exact gs_go f_244_611 rfl
theorem f_244_612 : ft 244 612 = some (1065, .aload_n 2, []) := rfl
theorem s_244_612 {d : Nat} {σ : xS} {st : List Value} {Q : xR → xS → Prop} {l0 l1 l3 l4 l5 l6 l7 l8 : Option Value} {x : Nat} : G d 244 612 [l0, l1, some (.ref x), l3, l4, l5, l6, l7, l8] st σ Q ↔ G d 244 613 [l0, l1, some (.ref x), l3, l4, l5, l6, l7, l8] (.ref x :: st) σ Q := gs_go f_244_612 rfl
theorem f_244_613 : ft 244 613 = some (1066, .aload_n 0, []) := rfl
theorem s_244_613 {d : Nat} {σ : xS} {st : List Value} {Q : xR → xS → Prop} {l1 l2 l3 l4 l5 l6 l7 l8 : Option Value} {x : Nat} : G d 244 613 [some (.ref x), l1, l2, l3, l4, l5, l6, l7, l8] st σ Q ↔ G d 244 614 [some (.ref x), l1, l2, l3, l4, l5, l6, l7, l8] (.ref x :: st) σ Q := gs_go f_244_613 rfl
theorem f_244_614 : ft 244 614 = some (1067, .iload 4, []) := rfl
theorem s_244_614 {d : Nat} {σ : xS} {st : List Value} {Q : xR → xS → Prop} {l0 l1 l2 l3 l5 l6 l7 l8 : Option Value} {x : Int32} : G d 244 614 [l0, l1, l2, l3, some (.int x), l5, l6, l7, l8] st σ Q ↔ G d 244 615 [l0, l1, l2, l3, some (.int x), l5, l6, l7, l8] (.int x :: st) σ Q := gs_go f_244_614 rfl
theorem f_244_615 : ft 244 615 = some (1069, .iconst 1, []) := rfl
theorem s_244_615 {d : Nat} {σ : xS} {st : List Value} {Q : xR → xS → Prop} {l0 l1 l2 l3 l4 l5 l6 l7 l8 : Option Value} : G d 244 615 [l0, l1, l2, l3, l4, l5, l6, l7, l8] st σ Q ↔ G d 244 616 [l0, l1, l2, l3, l4, l5, l6, l7, l8] (.int (1) :: st) σ Q := gs_go f_244_615 rfl
theorem f_244_616 : ft 244 616 = some (1070, .iadd, []) := rfl
theorem s_244_616 {d : Nat} {σ : xS} {st : List Value} {Q : xR → xS → Prop} {l0 l1 l2 l3 l4 l5 l6 l7 l8 : Option Value} {x y : Int32} : G d 244 616 [l0, l1, l2, l3, l4, l5, l6, l7, l8] (.int y :: .int x :: st) σ Q ↔ G d 244 617 [l0, l1, l2, l3, l4, l5, l6, l7, l8] (.int (x + y) :: st) σ Q := gs_go f_244_616 rfl
theorem f_244_617 : ft 244 617 = some (1071, .iaload, []) := rfl
theorem s_244_617 {d : Nat} {t : yT} {st : List Value} {Q : xR → xS → Prop} {l0 l1 l2 l3 l4 l5 l6 l7 l8 : Option Value} {a : Nat} {x : Int32} (ha : yA 0 a) : G d 244 617 [l0, l1, l2, l3, l4, l5, l6, l7, l8] (.int x :: .ref a :: st) (yemb t) Q ↔ yix x (yn a) ∧ G d 244 618 [l0, l1, l2, l3, l4, l5, l6, l7, l8] (.int (t.A a x.toNatClampNeg) :: st) (yemb t) Q := gs_iald f_244_617 ha
theorem f_244_618 : ft 244 618 = some (1072, .invokevirtual 149, [207, 2, 0, 1616]) := rfl
theorem s_244_618 {d : Nat} {t : yT} {st : List Value} {Q : xR → xS → Prop} {l0 l1 l2 l3 l4 l5 l6 l7 l8 : Option Value} {a0 : Nat} {a1 : Int32} (ho : yisO 8 a0) : G (d + 1) 244 618 [l0, l1, l2, l3, l4, l5, l6, l7, l8] (.int a1 :: .ref a0 :: st) (yemb t) Q ↔ xcat st ≤ 8 ∧ Cl d 207 [.ref a0, .int a1] (yemb t) (Gk (d + 1) 244 618 [l0, l1, l2, l3, l4, l5, l6, l7, l8] st Q) := gs_call f_244_618 ((xinv_call (i := 618) (n := 1616) (ls := [l0, l1, l2, l3, l4, l5, l6, l7, l8]) (kind := 0) (σ := yemb t) (by decide)).trans (xcall_vi [.int a1, .ref a0] rfl rfl (show (2 : Nat) ≤ 3 by decide) rfl ho))
theorem f_244_619 : ft 244 619 = some (1075, .istore 6, []) := rfl
theorem s_244_619 {d : Nat} {σ : xS} {st : List Value} {Q : xR → xS → Prop} {l0 l1 l2 l3 l4 l5 l6 l7 l8 : Option Value} {x : Int32} : G d 244 619 [l0, l1, l2, l3, l4, l5, l6, l7, l8] (.int x :: st) σ Q ↔ G d 244 620 [l0, l1, l2, l3, l4, ykl l5, some (.int x), l7, l8] st σ Q := by
  cases l5 with
  | none => exact gs_go f_244_619 rfl
  | some v => cases v <;> exact gs_go f_244_619 rfl
theorem f_244_620 : ft 244 620 = some (1077, .aload_n 2, []) := rfl
theorem s_244_620 {d : Nat} {σ : xS} {st : List Value} {Q : xR → xS → Prop} {l0 l1 l3 l4 l5 l6 l7 l8 : Option Value} {x : Nat} : G d 244 620 [l0, l1, some (.ref x), l3, l4, l5, l6, l7, l8] st σ Q ↔ G d 244 621 [l0, l1, some (.ref x), l3, l4, l5, l6, l7, l8] (.ref x :: st) σ Q := gs_go f_244_620 rfl
theorem f_244_621 : ft 244 621 = some (1078, .invokevirtual 91, [123, 1, 0, 1277]) := rfl
theorem s_244_621 {d : Nat} {t : yT} {st : List Value} {Q : xR → xS → Prop} {l0 l1 l2 l3 l4 l5 l6 l7 l8 : Option Value} {a0 : Nat} (ho : yisO 8 a0) : G (d + 1) 244 621 [l0, l1, l2, l3, l4, l5, l6, l7, l8] (.ref a0 :: st) (yemb t) Q ↔ xcat st ≤ 8 ∧ Cl d 123 [.ref a0] (yemb t) (Gk (d + 1) 244 621 [l0, l1, l2, l3, l4, l5, l6, l7, l8] st Q) := gs_call f_244_621 ((xinv_call (i := 621) (n := 1277) (ls := [l0, l1, l2, l3, l4, l5, l6, l7, l8]) (kind := 0) (σ := yemb t) (by decide)).trans (xcall_vi [.ref a0] rfl rfl (show (1 : Nat) ≤ 1 by decide) rfl ho))
theorem f_244_622 : ft 244 622 = some (1081, .iload 5, []) := rfl
theorem s_244_622 {d : Nat} {σ : xS} {st : List Value} {Q : xR → xS → Prop} {l0 l1 l2 l3 l4 l6 l7 l8 : Option Value} {x : Int32} : G d 244 622 [l0, l1, l2, l3, l4, some (.int x), l6, l7, l8] st σ Q ↔ G d 244 623 [l0, l1, l2, l3, l4, some (.int x), l6, l7, l8] (.int x :: st) σ Q := gs_go f_244_622 rfl
theorem f_244_623 : ft 244 623 = some (1083, .if_icmp .eq 5, [626]) := rfl
theorem s_244_623 {d : Nat} {σ : xS} {st : List Value} {Q : xR → xS → Prop} {l0 l1 l2 l3 l4 l5 l6 l7 l8 : Option Value} {x y : Int32} : G d 244 623 [l0, l1, l2, l3, l4, l5, l6, l7, l8] (.int y :: .int x :: st) σ Q ↔ if x = y then G d 244 626 [l0, l1, l2, l3, l4, l5, l6, l7, l8] st σ Q else G d 244 624 [l0, l1, l2, l3, l4, l5, l6, l7, l8] st σ Q := gs_if f_244_623 rfl
theorem f_244_624 : ft 244 624 = some (1086, .iconst 0, []) := rfl
theorem s_244_624 {d : Nat} {σ : xS} {st : List Value} {Q : xR → xS → Prop} {l0 l1 l2 l3 l4 l5 l6 l7 l8 : Option Value} : G d 244 624 [l0, l1, l2, l3, l4, l5, l6, l7, l8] st σ Q ↔ G d 244 625 [l0, l1, l2, l3, l4, l5, l6, l7, l8] (.int (0) :: st) σ Q := gs_go f_244_624 rfl
theorem f_244_625 : ft 244 625 = some (1087, .ireturn, []) := rfl
theorem s_244_625 {d : Nat} {σ : xS} {ls : xL} {Q : xR → xS → Prop} {x : Int32} : G d 244 625 ls [.int x] σ Q ↔ ybo x ∧ Q (.inl (some (.int x))) σ := gs_retb f_244_625 rfl
theorem f_244_626 : ft 244 626 = some (1088, .iload 5, []) := rfl
theorem s_244_626 {d : Nat} {σ : xS} {st : List Value} {Q : xR → xS → Prop} {l0 l1 l2 l3 l4 l6 l7 l8 : Option Value} {x : Int32} : G d 244 626 [l0, l1, l2, l3, l4, some (.int x), l6, l7, l8] st σ Q ↔ G d 244 627 [l0, l1, l2, l3, l4, some (.int x), l6, l7, l8] (.int x :: st) σ Q := gs_go f_244_626 rfl
theorem f_244_627 : ft 244 627 = some (1090, .ifCond .ne 15, [637]) := rfl
theorem s_244_627 {d : Nat} {σ : xS} {st : List Value} {Q : xR → xS → Prop} {l0 l1 l2 l3 l4 l5 l6 l7 l8 : Option Value} {x : Int32} : G d 244 627 [l0, l1, l2, l3, l4, l5, l6, l7, l8] (.int x :: st) σ Q ↔ if x ≠ 0 then G d 244 637 [l0, l1, l2, l3, l4, l5, l6, l7, l8] st σ Q else G d 244 628 [l0, l1, l2, l3, l4, l5, l6, l7, l8] st σ Q := gs_if f_244_627 rfl
theorem f_244_628 : ft 244 628 = some (1093, .aload_n 3, []) := rfl
theorem s_244_628 {d : Nat} {σ : xS} {st : List Value} {Q : xR → xS → Prop} {l0 l1 l2 l4 l5 l6 l7 l8 : Option Value} {x : Nat} : G d 244 628 [l0, l1, l2, some (.ref x), l4, l5, l6, l7, l8] st σ Q ↔ G d 244 629 [l0, l1, l2, some (.ref x), l4, l5, l6, l7, l8] (.ref x :: st) σ Q := gs_go f_244_628 rfl
theorem f_244_629 : ft 244 629 = some (1094, .iconst 0, []) := rfl
theorem s_244_629 {d : Nat} {σ : xS} {st : List Value} {Q : xR → xS → Prop} {l0 l1 l2 l3 l4 l5 l6 l7 l8 : Option Value} : G d 244 629 [l0, l1, l2, l3, l4, l5, l6, l7, l8] st σ Q ↔ G d 244 630 [l0, l1, l2, l3, l4, l5, l6, l7, l8] (.int (0) :: st) σ Q := gs_go f_244_629 rfl
theorem f_244_630 : ft 244 630 = some (1095, .laload, []) := rfl
theorem s_244_630 {d : Nat} {t : yT} {st : List Value} {Q : xR → xS → Prop} {l0 l1 l2 l3 l4 l5 l6 l7 l8 : Option Value} {a : Nat} {x : Int32} (ha : yLA a) : G d 244 630 [l0, l1, l2, l3, l4, l5, l6, l7, l8] (.int x :: .ref a :: st) (yemb t) Q ↔ yix x (yn a) ∧ G d 244 631 [l0, l1, l2, l3, l4, l5, l6, l7, l8] (.long (t.L a x.toNatClampNeg) :: st) (yemb t) Q := gs_lald f_244_630 ha
theorem f_244_631 : ft 244 631 = some (1096, .iload 6, []) := rfl
theorem s_244_631 {d : Nat} {σ : xS} {st : List Value} {Q : xR → xS → Prop} {l0 l1 l2 l3 l4 l5 l7 l8 : Option Value} {x : Int32} : G d 244 631 [l0, l1, l2, l3, l4, l5, some (.int x), l7, l8] st σ Q ↔ G d 244 632 [l0, l1, l2, l3, l4, l5, some (.int x), l7, l8] (.int x :: st) σ Q := gs_go f_244_631 rfl
theorem f_244_632 : ft 244 632 = some (1098, .i2l, []) := rfl
theorem s_244_632 {d : Nat} {σ : xS} {st : List Value} {Q : xR → xS → Prop} {l0 l1 l2 l3 l4 l5 l6 l7 l8 : Option Value} {x : Int32} : G d 244 632 [l0, l1, l2, l3, l4, l5, l6, l7, l8] (.int x :: st) σ Q ↔ G d 244 633 [l0, l1, l2, l3, l4, l5, l6, l7, l8] (.long x.toInt64 :: st) σ Q := gs_go f_244_632 rfl
theorem f_244_633 : ft 244 633 = some (1099, .lcmp, []) := rfl
theorem s_244_633 {d : Nat} {σ : xS} {st : List Value} {Q : xR → xS → Prop} {l0 l1 l2 l3 l4 l5 l6 l7 l8 : Option Value} {x y : Int64} : G d 244 633 [l0, l1, l2, l3, l4, l5, l6, l7, l8] (.long y :: .long x :: st) σ Q ↔ G d 244 634 [l0, l1, l2, l3, l4, l5, l6, l7, l8] (.int (lg_cmp x y) :: st) σ Q := gs_go f_244_633 rfl
theorem f_244_634 : ft 244 634 = some (1100, .ifCond .eq 5, [637]) := rfl
theorem s_244_634 {d : Nat} {σ : xS} {st : List Value} {Q : xR → xS → Prop} {l0 l1 l2 l3 l4 l5 l6 l7 l8 : Option Value} {x : Int32} : G d 244 634 [l0, l1, l2, l3, l4, l5, l6, l7, l8] (.int x :: st) σ Q ↔ if x = 0 then G d 244 637 [l0, l1, l2, l3, l4, l5, l6, l7, l8] st σ Q else G d 244 635 [l0, l1, l2, l3, l4, l5, l6, l7, l8] st σ Q := gs_if f_244_634 rfl
theorem f_244_635 : ft 244 635 = some (1103, .iconst 0, []) := rfl
theorem s_244_635 {d : Nat} {σ : xS} {st : List Value} {Q : xR → xS → Prop} {l0 l1 l2 l3 l4 l5 l6 l7 l8 : Option Value} : G d 244 635 [l0, l1, l2, l3, l4, l5, l6, l7, l8] st σ Q ↔ G d 244 636 [l0, l1, l2, l3, l4, l5, l6, l7, l8] (.int (0) :: st) σ Q := gs_go f_244_635 rfl
theorem f_244_636 : ft 244 636 = some (1104, .ireturn, []) := rfl
theorem s_244_636 {d : Nat} {σ : xS} {ls : xL} {Q : xR → xS → Prop} {x : Int32} : G d 244 636 ls [.int x] σ Q ↔ ybo x ∧ Q (.inl (some (.int x))) σ := gs_retb f_244_636 rfl
theorem f_244_637 : ft 244 637 = some (1105, .goto 381, [879]) := rfl
theorem s_244_637 {d : Nat} {σ : xS} {st : List Value} {Q : xR → xS → Prop} {l0 l1 l2 l3 l4 l5 l6 l7 l8 : Option Value} : G d 244 637 [l0, l1, l2, l3, l4, l5, l6, l7, l8] st σ Q ↔ G d 244 879 [l0, l1, l2, l3, l4, l5, l6, l7, l8] st σ Q := gs_go f_244_637 rfl
theorem f_244_638 : ft 244 638 = some (1108, .aload_n 1, []) := rfl
theorem s_244_638 {d : Nat} {σ : xS} {st : List Value} {Q : xR → xS → Prop} {l0 l2 l3 l4 l5 l6 l7 l8 : Option Value} {x : Nat} : G d 244 638 [l0, some (.ref x), l2, l3, l4, l5, l6, l7, l8] st σ Q ↔ G d 244 639 [l0, some (.ref x), l2, l3, l4, l5, l6, l7, l8] (.ref x :: st) σ Q := gs_go f_244_638 rfl
theorem f_244_639 : ft 244 639 = some (1109, .aload_n 0, []) := rfl
theorem s_244_639 {d : Nat} {σ : xS} {st : List Value} {Q : xR → xS → Prop} {l1 l2 l3 l4 l5 l6 l7 l8 : Option Value} {x : Nat} : G d 244 639 [some (.ref x), l1, l2, l3, l4, l5, l6, l7, l8] st σ Q ↔ G d 244 640 [some (.ref x), l1, l2, l3, l4, l5, l6, l7, l8] (.ref x :: st) σ Q := gs_go f_244_639 rfl
theorem f_244_640 : ft 244 640 = some (1110, .iload 4, []) := rfl
theorem s_244_640 {d : Nat} {σ : xS} {st : List Value} {Q : xR → xS → Prop} {l0 l1 l2 l3 l5 l6 l7 l8 : Option Value} {x : Int32} : G d 244 640 [l0, l1, l2, l3, some (.int x), l5, l6, l7, l8] st σ Q ↔ G d 244 641 [l0, l1, l2, l3, some (.int x), l5, l6, l7, l8] (.int x :: st) σ Q := gs_go f_244_640 rfl
theorem f_244_641 : ft 244 641 = some (1112, .iconst 1, []) := rfl
theorem s_244_641 {d : Nat} {σ : xS} {st : List Value} {Q : xR → xS → Prop} {l0 l1 l2 l3 l4 l5 l6 l7 l8 : Option Value} : G d 244 641 [l0, l1, l2, l3, l4, l5, l6, l7, l8] st σ Q ↔ G d 244 642 [l0, l1, l2, l3, l4, l5, l6, l7, l8] (.int (1) :: st) σ Q := gs_go f_244_641 rfl
theorem f_244_642 : ft 244 642 = some (1113, .iadd, []) := rfl
theorem s_244_642 {d : Nat} {σ : xS} {st : List Value} {Q : xR → xS → Prop} {l0 l1 l2 l3 l4 l5 l6 l7 l8 : Option Value} {x y : Int32} : G d 244 642 [l0, l1, l2, l3, l4, l5, l6, l7, l8] (.int y :: .int x :: st) σ Q ↔ G d 244 643 [l0, l1, l2, l3, l4, l5, l6, l7, l8] (.int (x + y) :: st) σ Q := gs_go f_244_642 rfl
theorem f_244_643 : ft 244 643 = some (1114, .iaload, []) := rfl
theorem s_244_643 {d : Nat} {t : yT} {st : List Value} {Q : xR → xS → Prop} {l0 l1 l2 l3 l4 l5 l6 l7 l8 : Option Value} {a : Nat} {x : Int32} (ha : yA 0 a) : G d 244 643 [l0, l1, l2, l3, l4, l5, l6, l7, l8] (.int x :: .ref a :: st) (yemb t) Q ↔ yix x (yn a) ∧ G d 244 644 [l0, l1, l2, l3, l4, l5, l6, l7, l8] (.int (t.A a x.toNatClampNeg) :: st) (yemb t) Q := gs_iald f_244_643 ha
theorem f_244_644 : ft 244 644 = some (1115, .aload_n 0, []) := rfl
theorem s_244_644 {d : Nat} {σ : xS} {st : List Value} {Q : xR → xS → Prop} {l1 l2 l3 l4 l5 l6 l7 l8 : Option Value} {x : Nat} : G d 244 644 [some (.ref x), l1, l2, l3, l4, l5, l6, l7, l8] st σ Q ↔ G d 244 645 [some (.ref x), l1, l2, l3, l4, l5, l6, l7, l8] (.ref x :: st) σ Q := gs_go f_244_644 rfl
theorem f_244_645 : ft 244 645 = some (1116, .iload 4, []) := rfl
theorem s_244_645 {d : Nat} {σ : xS} {st : List Value} {Q : xR → xS → Prop} {l0 l1 l2 l3 l5 l6 l7 l8 : Option Value} {x : Int32} : G d 244 645 [l0, l1, l2, l3, some (.int x), l5, l6, l7, l8] st σ Q ↔ G d 244 646 [l0, l1, l2, l3, some (.int x), l5, l6, l7, l8] (.int x :: st) σ Q := gs_go f_244_645 rfl
theorem f_244_646 : ft 244 646 = some (1118, .iconst 2, []) := rfl
theorem s_244_646 {d : Nat} {σ : xS} {st : List Value} {Q : xR → xS → Prop} {l0 l1 l2 l3 l4 l5 l6 l7 l8 : Option Value} : G d 244 646 [l0, l1, l2, l3, l4, l5, l6, l7, l8] st σ Q ↔ G d 244 647 [l0, l1, l2, l3, l4, l5, l6, l7, l8] (.int (2) :: st) σ Q := gs_go f_244_646 rfl
theorem f_244_647 : ft 244 647 = some (1119, .iadd, []) := rfl
theorem s_244_647 {d : Nat} {σ : xS} {st : List Value} {Q : xR → xS → Prop} {l0 l1 l2 l3 l4 l5 l6 l7 l8 : Option Value} {x y : Int32} : G d 244 647 [l0, l1, l2, l3, l4, l5, l6, l7, l8] (.int y :: .int x :: st) σ Q ↔ G d 244 648 [l0, l1, l2, l3, l4, l5, l6, l7, l8] (.int (x + y) :: st) σ Q := gs_go f_244_647 rfl
theorem f_244_648 : ft 244 648 = some (1120, .iaload, []) := rfl
theorem s_244_648 {d : Nat} {t : yT} {st : List Value} {Q : xR → xS → Prop} {l0 l1 l2 l3 l4 l5 l6 l7 l8 : Option Value} {a : Nat} {x : Int32} (ha : yA 0 a) : G d 244 648 [l0, l1, l2, l3, l4, l5, l6, l7, l8] (.int x :: .ref a :: st) (yemb t) Q ↔ yix x (yn a) ∧ G d 244 649 [l0, l1, l2, l3, l4, l5, l6, l7, l8] (.int (t.A a x.toNatClampNeg) :: st) (yemb t) Q := gs_iald f_244_648 ha
theorem f_244_649 : ft 244 649 = some (1121, .ifCond .eq 7, [652]) := rfl
theorem s_244_649 {d : Nat} {σ : xS} {st : List Value} {Q : xR → xS → Prop} {l0 l1 l2 l3 l4 l5 l6 l7 l8 : Option Value} {x : Int32} : G d 244 649 [l0, l1, l2, l3, l4, l5, l6, l7, l8] (.int x :: st) σ Q ↔ if x = 0 then G d 244 652 [l0, l1, l2, l3, l4, l5, l6, l7, l8] st σ Q else G d 244 650 [l0, l1, l2, l3, l4, l5, l6, l7, l8] st σ Q := gs_if f_244_649 rfl
theorem f_244_650 : ft 244 650 = some (1124, .iconst 1, []) := rfl
theorem s_244_650 {d : Nat} {σ : xS} {st : List Value} {Q : xR → xS → Prop} {l0 l1 l2 l3 l4 l5 l6 l7 l8 : Option Value} : G d 244 650 [l0, l1, l2, l3, l4, l5, l6, l7, l8] st σ Q ↔ G d 244 651 [l0, l1, l2, l3, l4, l5, l6, l7, l8] (.int (1) :: st) σ Q := gs_go f_244_650 rfl
theorem f_244_651 : ft 244 651 = some (1125, .goto 4, [653]) := rfl
theorem s_244_651 {d : Nat} {σ : xS} {st : List Value} {Q : xR → xS → Prop} {l0 l1 l2 l3 l4 l5 l6 l7 l8 : Option Value} : G d 244 651 [l0, l1, l2, l3, l4, l5, l6, l7, l8] st σ Q ↔ G d 244 653 [l0, l1, l2, l3, l4, l5, l6, l7, l8] st σ Q := gs_go f_244_651 rfl
theorem f_244_652 : ft 244 652 = some (1128, .iconst 0, []) := rfl
theorem s_244_652 {d : Nat} {σ : xS} {st : List Value} {Q : xR → xS → Prop} {l0 l1 l2 l3 l4 l5 l6 l7 l8 : Option Value} : G d 244 652 [l0, l1, l2, l3, l4, l5, l6, l7, l8] st σ Q ↔ G d 244 653 [l0, l1, l2, l3, l4, l5, l6, l7, l8] (.int (0) :: st) σ Q := gs_go f_244_652 rfl
theorem f_244_653 : ft 244 653 = some (1129, .aload_n 3, []) := rfl
theorem s_244_653 {d : Nat} {σ : xS} {st : List Value} {Q : xR → xS → Prop} {l0 l1 l2 l4 l5 l6 l7 l8 : Option Value} {x : Nat} : G d 244 653 [l0, l1, l2, some (.ref x), l4, l5, l6, l7, l8] st σ Q ↔ G d 244 654 [l0, l1, l2, some (.ref x), l4, l5, l6, l7, l8] (.ref x :: st) σ Q := gs_go f_244_653 rfl
theorem f_244_654 : ft 244 654 = some (1130, .invokestatic 150, [239, 4, 6, 1104]) := rfl
theorem s_244_654 {d : Nat} {σ : xS} {st : List Value} {Q : xR → xS → Prop} {l0 l1 l2 l3 l4 l5 l6 l7 l8 : Option Value} {a0 : Nat} {a1 : Int32} {a2 : Int32} {a3 : Nat} : G (d + 1) 244 654 [l0, l1, l2, l3, l4, l5, l6, l7, l8] (.ref a3 :: .int a2 :: .int a1 :: .ref a0 :: st) σ Q ↔ xcat st ≤ 8 ∧ Cl d 239 [.ref a0, .int a1, .int a2, .ref a3] σ (Gk (d + 1) 244 654 [l0, l1, l2, l3, l4, l5, l6, l7, l8] st Q) := gs_call f_244_654 ((xinv_call (i := 654) (n := 1104) (ls := [l0, l1, l2, l3, l4, l5, l6, l7, l8]) (kind := 6) (σ := σ) (by decide)).trans (xcall_st [.ref a3, .int a2, .int a1, .ref a0] rfl (by decide) (show (4 : Nat) ≤ 5 by decide)))
theorem f_244_655 : ft 244 655 = some (1133, .istore 5, []) := rfl
theorem s_244_655 {d : Nat} {σ : xS} {st : List Value} {Q : xR → xS → Prop} {l0 l1 l2 l3 l4 l5 l6 l7 l8 : Option Value} {x : Int32} : G d 244 655 [l0, l1, l2, l3, l4, l5, l6, l7, l8] (.int x :: st) σ Q ↔ G d 244 656 [l0, l1, l2, l3, ykl l4, some (.int x), l6, l7, l8] st σ Q := by
  cases l4 with
  | none => exact gs_go f_244_655 rfl
  | some v => cases v <;> exact gs_go f_244_655 rfl
theorem f_244_656 : ft 244 656 = some (1135, .aload_n 2, []) := rfl
theorem s_244_656 {d : Nat} {σ : xS} {st : List Value} {Q : xR → xS → Prop} {l0 l1 l3 l4 l5 l6 l7 l8 : Option Value} {x : Nat} : G d 244 656 [l0, l1, some (.ref x), l3, l4, l5, l6, l7, l8] st σ Q ↔ G d 244 657 [l0, l1, some (.ref x), l3, l4, l5, l6, l7, l8] (.ref x :: st) σ Q := gs_go f_244_656 rfl
theorem f_244_657 : ft 244 657 = some (1136, .aload_n 0, []) := rfl
theorem s_244_657 {d : Nat} {σ : xS} {st : List Value} {Q : xR → xS → Prop} {l1 l2 l3 l4 l5 l6 l7 l8 : Option Value} {x : Nat} : G d 244 657 [some (.ref x), l1, l2, l3, l4, l5, l6, l7, l8] st σ Q ↔ G d 244 658 [some (.ref x), l1, l2, l3, l4, l5, l6, l7, l8] (.ref x :: st) σ Q := gs_go f_244_657 rfl
theorem f_244_658 : ft 244 658 = some (1137, .iload 4, []) := rfl
theorem s_244_658 {d : Nat} {σ : xS} {st : List Value} {Q : xR → xS → Prop} {l0 l1 l2 l3 l5 l6 l7 l8 : Option Value} {x : Int32} : G d 244 658 [l0, l1, l2, l3, some (.int x), l5, l6, l7, l8] st σ Q ↔ G d 244 659 [l0, l1, l2, l3, some (.int x), l5, l6, l7, l8] (.int x :: st) σ Q := gs_go f_244_658 rfl
theorem f_244_659 : ft 244 659 = some (1139, .iconst 1, []) := rfl
theorem s_244_659 {d : Nat} {σ : xS} {st : List Value} {Q : xR → xS → Prop} {l0 l1 l2 l3 l4 l5 l6 l7 l8 : Option Value} : G d 244 659 [l0, l1, l2, l3, l4, l5, l6, l7, l8] st σ Q ↔ G d 244 660 [l0, l1, l2, l3, l4, l5, l6, l7, l8] (.int (1) :: st) σ Q := gs_go f_244_659 rfl
theorem f_244_660 : ft 244 660 = some (1140, .iadd, []) := rfl
theorem s_244_660 {d : Nat} {σ : xS} {st : List Value} {Q : xR → xS → Prop} {l0 l1 l2 l3 l4 l5 l6 l7 l8 : Option Value} {x y : Int32} : G d 244 660 [l0, l1, l2, l3, l4, l5, l6, l7, l8] (.int y :: .int x :: st) σ Q ↔ G d 244 661 [l0, l1, l2, l3, l4, l5, l6, l7, l8] (.int (x + y) :: st) σ Q := gs_go f_244_660 rfl
theorem f_244_661 : ft 244 661 = some (1141, .iaload, []) := rfl
theorem s_244_661 {d : Nat} {t : yT} {st : List Value} {Q : xR → xS → Prop} {l0 l1 l2 l3 l4 l5 l6 l7 l8 : Option Value} {a : Nat} {x : Int32} (ha : yA 0 a) : G d 244 661 [l0, l1, l2, l3, l4, l5, l6, l7, l8] (.int x :: .ref a :: st) (yemb t) Q ↔ yix x (yn a) ∧ G d 244 662 [l0, l1, l2, l3, l4, l5, l6, l7, l8] (.int (t.A a x.toNatClampNeg) :: st) (yemb t) Q := gs_iald f_244_661 ha
theorem f_244_662 : ft 244 662 = some (1142, .aload_n 0, []) := rfl
theorem s_244_662 {d : Nat} {σ : xS} {st : List Value} {Q : xR → xS → Prop} {l1 l2 l3 l4 l5 l6 l7 l8 : Option Value} {x : Nat} : G d 244 662 [some (.ref x), l1, l2, l3, l4, l5, l6, l7, l8] st σ Q ↔ G d 244 663 [some (.ref x), l1, l2, l3, l4, l5, l6, l7, l8] (.ref x :: st) σ Q := gs_go f_244_662 rfl
theorem f_244_663 : ft 244 663 = some (1143, .iload 4, []) := rfl
theorem s_244_663 {d : Nat} {σ : xS} {st : List Value} {Q : xR → xS → Prop} {l0 l1 l2 l3 l5 l6 l7 l8 : Option Value} {x : Int32} : G d 244 663 [l0, l1, l2, l3, some (.int x), l5, l6, l7, l8] st σ Q ↔ G d 244 664 [l0, l1, l2, l3, some (.int x), l5, l6, l7, l8] (.int x :: st) σ Q := gs_go f_244_663 rfl
theorem f_244_664 : ft 244 664 = some (1145, .iconst 2, []) := rfl
theorem s_244_664 {d : Nat} {σ : xS} {st : List Value} {Q : xR → xS → Prop} {l0 l1 l2 l3 l4 l5 l6 l7 l8 : Option Value} : G d 244 664 [l0, l1, l2, l3, l4, l5, l6, l7, l8] st σ Q ↔ G d 244 665 [l0, l1, l2, l3, l4, l5, l6, l7, l8] (.int (2) :: st) σ Q := gs_go f_244_664 rfl
theorem f_244_665 : ft 244 665 = some (1146, .iadd, []) := rfl
theorem s_244_665 {d : Nat} {σ : xS} {st : List Value} {Q : xR → xS → Prop} {l0 l1 l2 l3 l4 l5 l6 l7 l8 : Option Value} {x y : Int32} : G d 244 665 [l0, l1, l2, l3, l4, l5, l6, l7, l8] (.int y :: .int x :: st) σ Q ↔ G d 244 666 [l0, l1, l2, l3, l4, l5, l6, l7, l8] (.int (x + y) :: st) σ Q := gs_go f_244_665 rfl
theorem f_244_666 : ft 244 666 = some (1147, .iaload, []) := rfl
theorem s_244_666 {d : Nat} {t : yT} {st : List Value} {Q : xR → xS → Prop} {l0 l1 l2 l3 l4 l5 l6 l7 l8 : Option Value} {a : Nat} {x : Int32} (ha : yA 0 a) : G d 244 666 [l0, l1, l2, l3, l4, l5, l6, l7, l8] (.int x :: .ref a :: st) (yemb t) Q ↔ yix x (yn a) ∧ G d 244 667 [l0, l1, l2, l3, l4, l5, l6, l7, l8] (.int (t.A a x.toNatClampNeg) :: st) (yemb t) Q := gs_iald f_244_666 ha
theorem f_244_667 : ft 244 667 = some (1148, .ifCond .eq 7, [670]) := rfl
theorem s_244_667 {d : Nat} {σ : xS} {st : List Value} {Q : xR → xS → Prop} {l0 l1 l2 l3 l4 l5 l6 l7 l8 : Option Value} {x : Int32} : G d 244 667 [l0, l1, l2, l3, l4, l5, l6, l7, l8] (.int x :: st) σ Q ↔ if x = 0 then G d 244 670 [l0, l1, l2, l3, l4, l5, l6, l7, l8] st σ Q else G d 244 668 [l0, l1, l2, l3, l4, l5, l6, l7, l8] st σ Q := gs_if f_244_667 rfl
theorem f_244_668 : ft 244 668 = some (1151, .iconst 1, []) := rfl
theorem s_244_668 {d : Nat} {σ : xS} {st : List Value} {Q : xR → xS → Prop} {l0 l1 l2 l3 l4 l5 l6 l7 l8 : Option Value} : G d 244 668 [l0, l1, l2, l3, l4, l5, l6, l7, l8] st σ Q ↔ G d 244 669 [l0, l1, l2, l3, l4, l5, l6, l7, l8] (.int (1) :: st) σ Q := gs_go f_244_668 rfl
theorem f_244_669 : ft 244 669 = some (1152, .goto 4, [671]) := rfl
theorem s_244_669 {d : Nat} {σ : xS} {st : List Value} {Q : xR → xS → Prop} {l0 l1 l2 l3 l4 l5 l6 l7 l8 : Option Value} : G d 244 669 [l0, l1, l2, l3, l4, l5, l6, l7, l8] st σ Q ↔ G d 244 671 [l0, l1, l2, l3, l4, l5, l6, l7, l8] st σ Q := gs_go f_244_669 rfl
theorem f_244_670 : ft 244 670 = some (1155, .iconst 0, []) := rfl
theorem s_244_670 {d : Nat} {σ : xS} {st : List Value} {Q : xR → xS → Prop} {l0 l1 l2 l3 l4 l5 l6 l7 l8 : Option Value} : G d 244 670 [l0, l1, l2, l3, l4, l5, l6, l7, l8] st σ Q ↔ G d 244 671 [l0, l1, l2, l3, l4, l5, l6, l7, l8] (.int (0) :: st) σ Q := gs_go f_244_670 rfl
theorem f_244_671 : ft 244 671 = some (1156, .invokevirtual 153, [208, 3, 0, 1620]) := rfl
theorem s_244_671 {d : Nat} {t : yT} {st : List Value} {Q : xR → xS → Prop} {l0 l1 l2 l3 l4 l5 l6 l7 l8 : Option Value} {a0 : Nat} {a1 : Int32} {a2 : Int32} (ho : yisO 8 a0) : G (d + 1) 244 671 [l0, l1, l2, l3, l4, l5, l6, l7, l8] (.int a2 :: .int a1 :: .ref a0 :: st) (yemb t) Q ↔ xcat st ≤ 8 ∧ Cl d 208 [.ref a0, .int a1, .int a2] (yemb t) (Gk (d + 1) 244 671 [l0, l1, l2, l3, l4, l5, l6, l7, l8] st Q) := gs_call f_244_671 ((xinv_call (i := 671) (n := 1620) (ls := [l0, l1, l2, l3, l4, l5, l6, l7, l8]) (kind := 0) (σ := yemb t) (by decide)).trans (xcall_vi [.int a2, .int a1, .ref a0] rfl rfl (show (3 : Nat) ≤ 4 by decide) rfl ho))
theorem f_244_672 : ft 244 672 = some (1159, .istore 6, []) := rfl
theorem s_244_672 {d : Nat} {σ : xS} {st : List Value} {Q : xR → xS → Prop} {l0 l1 l2 l3 l4 l5 l6 l7 l8 : Option Value} {x : Int32} : G d 244 672 [l0, l1, l2, l3, l4, l5, l6, l7, l8] (.int x :: st) σ Q ↔ G d 244 673 [l0, l1, l2, l3, l4, ykl l5, some (.int x), l7, l8] st σ Q := by
  cases l5 with
  | none => exact gs_go f_244_672 rfl
  | some v => cases v <;> exact gs_go f_244_672 rfl
theorem f_244_673 : ft 244 673 = some (1161, .aload_n 2, []) := rfl
theorem s_244_673 {d : Nat} {σ : xS} {st : List Value} {Q : xR → xS → Prop} {l0 l1 l3 l4 l5 l6 l7 l8 : Option Value} {x : Nat} : G d 244 673 [l0, l1, some (.ref x), l3, l4, l5, l6, l7, l8] st σ Q ↔ G d 244 674 [l0, l1, some (.ref x), l3, l4, l5, l6, l7, l8] (.ref x :: st) σ Q := gs_go f_244_673 rfl
theorem f_244_674 : ft 244 674 = some (1162, .invokevirtual 91, [123, 1, 0, 1277]) := rfl
theorem s_244_674 {d : Nat} {t : yT} {st : List Value} {Q : xR → xS → Prop} {l0 l1 l2 l3 l4 l5 l6 l7 l8 : Option Value} {a0 : Nat} (ho : yisO 8 a0) : G (d + 1) 244 674 [l0, l1, l2, l3, l4, l5, l6, l7, l8] (.ref a0 :: st) (yemb t) Q ↔ xcat st ≤ 8 ∧ Cl d 123 [.ref a0] (yemb t) (Gk (d + 1) 244 674 [l0, l1, l2, l3, l4, l5, l6, l7, l8] st Q) := gs_call f_244_674 ((xinv_call (i := 674) (n := 1277) (ls := [l0, l1, l2, l3, l4, l5, l6, l7, l8]) (kind := 0) (σ := yemb t) (by decide)).trans (xcall_vi [.ref a0] rfl rfl (show (1 : Nat) ≤ 1 by decide) rfl ho))
theorem f_244_675 : ft 244 675 = some (1165, .iload 5, []) := rfl
theorem s_244_675 {d : Nat} {σ : xS} {st : List Value} {Q : xR → xS → Prop} {l0 l1 l2 l3 l4 l6 l7 l8 : Option Value} {x : Int32} : G d 244 675 [l0, l1, l2, l3, l4, some (.int x), l6, l7, l8] st σ Q ↔ G d 244 676 [l0, l1, l2, l3, l4, some (.int x), l6, l7, l8] (.int x :: st) σ Q := gs_go f_244_675 rfl
theorem f_244_676 : ft 244 676 = some (1167, .if_icmp .eq 5, [679]) := rfl
theorem s_244_676 {d : Nat} {σ : xS} {st : List Value} {Q : xR → xS → Prop} {l0 l1 l2 l3 l4 l5 l6 l7 l8 : Option Value} {x y : Int32} : G d 244 676 [l0, l1, l2, l3, l4, l5, l6, l7, l8] (.int y :: .int x :: st) σ Q ↔ if x = y then G d 244 679 [l0, l1, l2, l3, l4, l5, l6, l7, l8] st σ Q else G d 244 677 [l0, l1, l2, l3, l4, l5, l6, l7, l8] st σ Q := gs_if f_244_676 rfl
theorem f_244_677 : ft 244 677 = some (1170, .iconst 0, []) := rfl
theorem s_244_677 {d : Nat} {σ : xS} {st : List Value} {Q : xR → xS → Prop} {l0 l1 l2 l3 l4 l5 l6 l7 l8 : Option Value} : G d 244 677 [l0, l1, l2, l3, l4, l5, l6, l7, l8] st σ Q ↔ G d 244 678 [l0, l1, l2, l3, l4, l5, l6, l7, l8] (.int (0) :: st) σ Q := gs_go f_244_677 rfl
theorem f_244_678 : ft 244 678 = some (1171, .ireturn, []) := rfl
theorem s_244_678 {d : Nat} {σ : xS} {ls : xL} {Q : xR → xS → Prop} {x : Int32} : G d 244 678 ls [.int x] σ Q ↔ ybo x ∧ Q (.inl (some (.int x))) σ := gs_retb f_244_678 rfl
theorem f_244_679 : ft 244 679 = some (1172, .iload 5, []) := rfl
theorem s_244_679 {d : Nat} {σ : xS} {st : List Value} {Q : xR → xS → Prop} {l0 l1 l2 l3 l4 l6 l7 l8 : Option Value} {x : Int32} : G d 244 679 [l0, l1, l2, l3, l4, some (.int x), l6, l7, l8] st σ Q ↔ G d 244 680 [l0, l1, l2, l3, l4, some (.int x), l6, l7, l8] (.int x :: st) σ Q := gs_go f_244_679 rfl
theorem f_244_680 : ft 244 680 = some (1174, .ifCond .ne 22, [693]) := rfl
theorem s_244_680 {d : Nat} {σ : xS} {st : List Value} {Q : xR → xS → Prop} {l0 l1 l2 l3 l4 l5 l6 l7 l8 : Option Value} {x : Int32} : G d 244 680 [l0, l1, l2, l3, l4, l5, l6, l7, l8] (.int x :: st) σ Q ↔ if x ≠ 0 then G d 244 693 [l0, l1, l2, l3, l4, l5, l6, l7, l8] st σ Q else G d 244 681 [l0, l1, l2, l3, l4, l5, l6, l7, l8] st σ Q := gs_if f_244_680 rfl
theorem f_244_681 : ft 244 681 = some (1177, .aload_n 3, []) := rfl
theorem s_244_681 {d : Nat} {σ : xS} {st : List Value} {Q : xR → xS → Prop} {l0 l1 l2 l4 l5 l6 l7 l8 : Option Value} {x : Nat} : G d 244 681 [l0, l1, l2, some (.ref x), l4, l5, l6, l7, l8] st σ Q ↔ G d 244 682 [l0, l1, l2, some (.ref x), l4, l5, l6, l7, l8] (.ref x :: st) σ Q := gs_go f_244_681 rfl
theorem f_244_682 : ft 244 682 = some (1178, .iconst 0, []) := rfl
theorem s_244_682 {d : Nat} {σ : xS} {st : List Value} {Q : xR → xS → Prop} {l0 l1 l2 l3 l4 l5 l6 l7 l8 : Option Value} : G d 244 682 [l0, l1, l2, l3, l4, l5, l6, l7, l8] st σ Q ↔ G d 244 683 [l0, l1, l2, l3, l4, l5, l6, l7, l8] (.int (0) :: st) σ Q := gs_go f_244_682 rfl
theorem f_244_683 : ft 244 683 = some (1179, .laload, []) := rfl
theorem s_244_683 {d : Nat} {t : yT} {st : List Value} {Q : xR → xS → Prop} {l0 l1 l2 l3 l4 l5 l6 l7 l8 : Option Value} {a : Nat} {x : Int32} (ha : yLA a) : G d 244 683 [l0, l1, l2, l3, l4, l5, l6, l7, l8] (.int x :: .ref a :: st) (yemb t) Q ↔ yix x (yn a) ∧ G d 244 684 [l0, l1, l2, l3, l4, l5, l6, l7, l8] (.long (t.L a x.toNatClampNeg) :: st) (yemb t) Q := gs_lald f_244_683 ha
theorem f_244_684 : ft 244 684 = some (1180, .iload 6, []) := rfl
theorem s_244_684 {d : Nat} {σ : xS} {st : List Value} {Q : xR → xS → Prop} {l0 l1 l2 l3 l4 l5 l7 l8 : Option Value} {x : Int32} : G d 244 684 [l0, l1, l2, l3, l4, l5, some (.int x), l7, l8] st σ Q ↔ G d 244 685 [l0, l1, l2, l3, l4, l5, some (.int x), l7, l8] (.int x :: st) σ Q := gs_go f_244_684 rfl
theorem f_244_685 : ft 244 685 = some (1182, .ifCond .eq 7, [688]) := rfl
theorem s_244_685 {d : Nat} {σ : xS} {st : List Value} {Q : xR → xS → Prop} {l0 l1 l2 l3 l4 l5 l6 l7 l8 : Option Value} {x : Int32} : G d 244 685 [l0, l1, l2, l3, l4, l5, l6, l7, l8] (.int x :: st) σ Q ↔ if x = 0 then G d 244 688 [l0, l1, l2, l3, l4, l5, l6, l7, l8] st σ Q else G d 244 686 [l0, l1, l2, l3, l4, l5, l6, l7, l8] st σ Q := gs_if f_244_685 rfl
theorem f_244_686 : ft 244 686 = some (1185, .lconst 1, []) := rfl
theorem s_244_686 {d : Nat} {σ : xS} {st : List Value} {Q : xR → xS → Prop} {l0 l1 l2 l3 l4 l5 l6 l7 l8 : Option Value} : G d 244 686 [l0, l1, l2, l3, l4, l5, l6, l7, l8] st σ Q ↔ G d 244 687 [l0, l1, l2, l3, l4, l5, l6, l7, l8] (.long (1) :: st) σ Q := gs_go f_244_686 rfl
theorem f_244_687 : ft 244 687 = some (1186, .goto 4, [689]) := rfl
theorem s_244_687 {d : Nat} {σ : xS} {st : List Value} {Q : xR → xS → Prop} {l0 l1 l2 l3 l4 l5 l6 l7 l8 : Option Value} : G d 244 687 [l0, l1, l2, l3, l4, l5, l6, l7, l8] st σ Q ↔ G d 244 689 [l0, l1, l2, l3, l4, l5, l6, l7, l8] st σ Q := gs_go f_244_687 rfl
theorem f_244_688 : ft 244 688 = some (1189, .lconst 0, []) := rfl
theorem s_244_688 {d : Nat} {σ : xS} {st : List Value} {Q : xR → xS → Prop} {l0 l1 l2 l3 l4 l5 l6 l7 l8 : Option Value} : G d 244 688 [l0, l1, l2, l3, l4, l5, l6, l7, l8] st σ Q ↔ G d 244 689 [l0, l1, l2, l3, l4, l5, l6, l7, l8] (.long (0) :: st) σ Q := gs_go f_244_688 rfl
theorem f_244_689 : ft 244 689 = some (1190, .lcmp, []) := rfl
theorem s_244_689 {d : Nat} {σ : xS} {st : List Value} {Q : xR → xS → Prop} {l0 l1 l2 l3 l4 l5 l6 l7 l8 : Option Value} {x y : Int64} : G d 244 689 [l0, l1, l2, l3, l4, l5, l6, l7, l8] (.long y :: .long x :: st) σ Q ↔ G d 244 690 [l0, l1, l2, l3, l4, l5, l6, l7, l8] (.int (lg_cmp x y) :: st) σ Q := gs_go f_244_689 rfl
theorem f_244_690 : ft 244 690 = some (1191, .ifCond .eq 5, [693]) := rfl
theorem s_244_690 {d : Nat} {σ : xS} {st : List Value} {Q : xR → xS → Prop} {l0 l1 l2 l3 l4 l5 l6 l7 l8 : Option Value} {x : Int32} : G d 244 690 [l0, l1, l2, l3, l4, l5, l6, l7, l8] (.int x :: st) σ Q ↔ if x = 0 then G d 244 693 [l0, l1, l2, l3, l4, l5, l6, l7, l8] st σ Q else G d 244 691 [l0, l1, l2, l3, l4, l5, l6, l7, l8] st σ Q := gs_if f_244_690 rfl
theorem f_244_691 : ft 244 691 = some (1194, .iconst 0, []) := rfl
theorem s_244_691 {d : Nat} {σ : xS} {st : List Value} {Q : xR → xS → Prop} {l0 l1 l2 l3 l4 l5 l6 l7 l8 : Option Value} : G d 244 691 [l0, l1, l2, l3, l4, l5, l6, l7, l8] st σ Q ↔ G d 244 692 [l0, l1, l2, l3, l4, l5, l6, l7, l8] (.int (0) :: st) σ Q := gs_go f_244_691 rfl
theorem f_244_692 : ft 244 692 = some (1195, .ireturn, []) := rfl
theorem s_244_692 {d : Nat} {σ : xS} {ls : xL} {Q : xR → xS → Prop} {x : Int32} : G d 244 692 ls [.int x] σ Q ↔ ybo x ∧ Q (.inl (some (.int x))) σ := gs_retb f_244_692 rfl
theorem f_244_693 : ft 244 693 = some (1196, .goto 290, [879]) := rfl
theorem s_244_693 {d : Nat} {σ : xS} {st : List Value} {Q : xR → xS → Prop} {l0 l1 l2 l3 l4 l5 l6 l7 l8 : Option Value} : G d 244 693 [l0, l1, l2, l3, l4, l5, l6, l7, l8] st σ Q ↔ G d 244 879 [l0, l1, l2, l3, l4, l5, l6, l7, l8] st σ Q := gs_go f_244_693 rfl
theorem f_244_694 : ft 244 694 = some (1199, .aload_n 1, []) := rfl
theorem s_244_694 {d : Nat} {σ : xS} {st : List Value} {Q : xR → xS → Prop} {l0 l2 l3 l4 l5 l6 l7 l8 : Option Value} {x : Nat} : G d 244 694 [l0, some (.ref x), l2, l3, l4, l5, l6, l7, l8] st σ Q ↔ G d 244 695 [l0, some (.ref x), l2, l3, l4, l5, l6, l7, l8] (.ref x :: st) σ Q := gs_go f_244_694 rfl
theorem f_244_695 : ft 244 695 = some (1200, .aload_n 0, []) := rfl
theorem s_244_695 {d : Nat} {σ : xS} {st : List Value} {Q : xR → xS → Prop} {l1 l2 l3 l4 l5 l6 l7 l8 : Option Value} {x : Nat} : G d 244 695 [some (.ref x), l1, l2, l3, l4, l5, l6, l7, l8] st σ Q ↔ G d 244 696 [some (.ref x), l1, l2, l3, l4, l5, l6, l7, l8] (.ref x :: st) σ Q := gs_go f_244_695 rfl
theorem f_244_696 : ft 244 696 = some (1201, .iload 4, []) := rfl
theorem s_244_696 {d : Nat} {σ : xS} {st : List Value} {Q : xR → xS → Prop} {l0 l1 l2 l3 l5 l6 l7 l8 : Option Value} {x : Int32} : G d 244 696 [l0, l1, l2, l3, some (.int x), l5, l6, l7, l8] st σ Q ↔ G d 244 697 [l0, l1, l2, l3, some (.int x), l5, l6, l7, l8] (.int x :: st) σ Q := gs_go f_244_696 rfl
theorem f_244_697 : ft 244 697 = some (1203, .iconst 1, []) := rfl
theorem s_244_697 {d : Nat} {σ : xS} {st : List Value} {Q : xR → xS → Prop} {l0 l1 l2 l3 l4 l5 l6 l7 l8 : Option Value} : G d 244 697 [l0, l1, l2, l3, l4, l5, l6, l7, l8] st σ Q ↔ G d 244 698 [l0, l1, l2, l3, l4, l5, l6, l7, l8] (.int (1) :: st) σ Q := gs_go f_244_697 rfl
theorem f_244_698 : ft 244 698 = some (1204, .iadd, []) := rfl
theorem s_244_698 {d : Nat} {σ : xS} {st : List Value} {Q : xR → xS → Prop} {l0 l1 l2 l3 l4 l5 l6 l7 l8 : Option Value} {x y : Int32} : G d 244 698 [l0, l1, l2, l3, l4, l5, l6, l7, l8] (.int y :: .int x :: st) σ Q ↔ G d 244 699 [l0, l1, l2, l3, l4, l5, l6, l7, l8] (.int (x + y) :: st) σ Q := gs_go f_244_698 rfl
theorem f_244_699 : ft 244 699 = some (1205, .iaload, []) := rfl
theorem s_244_699 {d : Nat} {t : yT} {st : List Value} {Q : xR → xS → Prop} {l0 l1 l2 l3 l4 l5 l6 l7 l8 : Option Value} {a : Nat} {x : Int32} (ha : yA 0 a) : G d 244 699 [l0, l1, l2, l3, l4, l5, l6, l7, l8] (.int x :: .ref a :: st) (yemb t) Q ↔ yix x (yn a) ∧ G d 244 700 [l0, l1, l2, l3, l4, l5, l6, l7, l8] (.int (t.A a x.toNatClampNeg) :: st) (yemb t) Q := gs_iald f_244_699 ha
theorem f_244_700 : ft 244 700 = some (1206, .aload_n 0, []) := rfl
theorem s_244_700 {d : Nat} {σ : xS} {st : List Value} {Q : xR → xS → Prop} {l1 l2 l3 l4 l5 l6 l7 l8 : Option Value} {x : Nat} : G d 244 700 [some (.ref x), l1, l2, l3, l4, l5, l6, l7, l8] st σ Q ↔ G d 244 701 [some (.ref x), l1, l2, l3, l4, l5, l6, l7, l8] (.ref x :: st) σ Q := gs_go f_244_700 rfl
theorem f_244_701 : ft 244 701 = some (1207, .iload 4, []) := rfl
theorem s_244_701 {d : Nat} {σ : xS} {st : List Value} {Q : xR → xS → Prop} {l0 l1 l2 l3 l5 l6 l7 l8 : Option Value} {x : Int32} : G d 244 701 [l0, l1, l2, l3, some (.int x), l5, l6, l7, l8] st σ Q ↔ G d 244 702 [l0, l1, l2, l3, some (.int x), l5, l6, l7, l8] (.int x :: st) σ Q := gs_go f_244_701 rfl
theorem f_244_702 : ft 244 702 = some (1209, .iconst 2, []) := rfl
theorem s_244_702 {d : Nat} {σ : xS} {st : List Value} {Q : xR → xS → Prop} {l0 l1 l2 l3 l4 l5 l6 l7 l8 : Option Value} : G d 244 702 [l0, l1, l2, l3, l4, l5, l6, l7, l8] st σ Q ↔ G d 244 703 [l0, l1, l2, l3, l4, l5, l6, l7, l8] (.int (2) :: st) σ Q := gs_go f_244_702 rfl
theorem f_244_703 : ft 244 703 = some (1210, .iadd, []) := rfl
theorem s_244_703 {d : Nat} {σ : xS} {st : List Value} {Q : xR → xS → Prop} {l0 l1 l2 l3 l4 l5 l6 l7 l8 : Option Value} {x y : Int32} : G d 244 703 [l0, l1, l2, l3, l4, l5, l6, l7, l8] (.int y :: .int x :: st) σ Q ↔ G d 244 704 [l0, l1, l2, l3, l4, l5, l6, l7, l8] (.int (x + y) :: st) σ Q := gs_go f_244_703 rfl
theorem f_244_704 : ft 244 704 = some (1211, .iaload, []) := rfl
theorem s_244_704 {d : Nat} {t : yT} {st : List Value} {Q : xR → xS → Prop} {l0 l1 l2 l3 l4 l5 l6 l7 l8 : Option Value} {a : Nat} {x : Int32} (ha : yA 0 a) : G d 244 704 [l0, l1, l2, l3, l4, l5, l6, l7, l8] (.int x :: .ref a :: st) (yemb t) Q ↔ yix x (yn a) ∧ G d 244 705 [l0, l1, l2, l3, l4, l5, l6, l7, l8] (.int (t.A a x.toNatClampNeg) :: st) (yemb t) Q := gs_iald f_244_704 ha
theorem f_244_705 : ft 244 705 = some (1212, .aload_n 0, []) := rfl
theorem s_244_705 {d : Nat} {σ : xS} {st : List Value} {Q : xR → xS → Prop} {l1 l2 l3 l4 l5 l6 l7 l8 : Option Value} {x : Nat} : G d 244 705 [some (.ref x), l1, l2, l3, l4, l5, l6, l7, l8] st σ Q ↔ G d 244 706 [some (.ref x), l1, l2, l3, l4, l5, l6, l7, l8] (.ref x :: st) σ Q := gs_go f_244_705 rfl
theorem f_244_706 : ft 244 706 = some (1213, .iload 4, []) := rfl
theorem s_244_706 {d : Nat} {σ : xS} {st : List Value} {Q : xR → xS → Prop} {l0 l1 l2 l3 l5 l6 l7 l8 : Option Value} {x : Int32} : G d 244 706 [l0, l1, l2, l3, some (.int x), l5, l6, l7, l8] st σ Q ↔ G d 244 707 [l0, l1, l2, l3, some (.int x), l5, l6, l7, l8] (.int x :: st) σ Q := gs_go f_244_706 rfl
theorem f_244_707 : ft 244 707 = some (1215, .iconst 3, []) := rfl
theorem s_244_707 {d : Nat} {σ : xS} {st : List Value} {Q : xR → xS → Prop} {l0 l1 l2 l3 l4 l5 l6 l7 l8 : Option Value} : G d 244 707 [l0, l1, l2, l3, l4, l5, l6, l7, l8] st σ Q ↔ G d 244 708 [l0, l1, l2, l3, l4, l5, l6, l7, l8] (.int (3) :: st) σ Q := gs_go f_244_707 rfl
theorem f_244_708 : ft 244 708 = some (1216, .iadd, []) := rfl
theorem s_244_708 {d : Nat} {σ : xS} {st : List Value} {Q : xR → xS → Prop} {l0 l1 l2 l3 l4 l5 l6 l7 l8 : Option Value} {x y : Int32} : G d 244 708 [l0, l1, l2, l3, l4, l5, l6, l7, l8] (.int y :: .int x :: st) σ Q ↔ G d 244 709 [l0, l1, l2, l3, l4, l5, l6, l7, l8] (.int (x + y) :: st) σ Q := gs_go f_244_708 rfl
theorem f_244_709 : ft 244 709 = some (1217, .iaload, []) := rfl
theorem s_244_709 {d : Nat} {t : yT} {st : List Value} {Q : xR → xS → Prop} {l0 l1 l2 l3 l4 l5 l6 l7 l8 : Option Value} {a : Nat} {x : Int32} (ha : yA 0 a) : G d 244 709 [l0, l1, l2, l3, l4, l5, l6, l7, l8] (.int x :: .ref a :: st) (yemb t) Q ↔ yix x (yn a) ∧ G d 244 710 [l0, l1, l2, l3, l4, l5, l6, l7, l8] (.int (t.A a x.toNatClampNeg) :: st) (yemb t) Q := gs_iald f_244_709 ha
theorem f_244_710 : ft 244 710 = some (1218, .aload_n 3, []) := rfl
theorem s_244_710 {d : Nat} {σ : xS} {st : List Value} {Q : xR → xS → Prop} {l0 l1 l2 l4 l5 l6 l7 l8 : Option Value} {x : Nat} : G d 244 710 [l0, l1, l2, some (.ref x), l4, l5, l6, l7, l8] st σ Q ↔ G d 244 711 [l0, l1, l2, some (.ref x), l4, l5, l6, l7, l8] (.ref x :: st) σ Q := gs_go f_244_710 rfl
theorem f_244_711 : ft 244 711 = some (1219, .invokestatic 154, [240, 5, 6, 1112]) := rfl
theorem s_244_711 {d : Nat} {σ : xS} {st : List Value} {Q : xR → xS → Prop} {l0 l1 l2 l3 l4 l5 l6 l7 l8 : Option Value} {a0 : Nat} {a1 : Int32} {a2 : Int32} {a3 : Int32} {a4 : Nat} : G (d + 1) 244 711 [l0, l1, l2, l3, l4, l5, l6, l7, l8] (.ref a4 :: .int a3 :: .int a2 :: .int a1 :: .ref a0 :: st) σ Q ↔ xcat st ≤ 8 ∧ Cl d 240 [.ref a0, .int a1, .int a2, .int a3, .ref a4] σ (Gk (d + 1) 244 711 [l0, l1, l2, l3, l4, l5, l6, l7, l8] st Q) := gs_call f_244_711 ((xinv_call (i := 711) (n := 1112) (ls := [l0, l1, l2, l3, l4, l5, l6, l7, l8]) (kind := 6) (σ := σ) (by decide)).trans (xcall_st [.ref a4, .int a3, .int a2, .int a1, .ref a0] rfl (by decide) (show (5 : Nat) ≤ 6 by decide)))
theorem f_244_712 : ft 244 712 = some (1222, .istore 5, []) := rfl
theorem s_244_712 {d : Nat} {σ : xS} {st : List Value} {Q : xR → xS → Prop} {l0 l1 l2 l3 l4 l5 l6 l7 l8 : Option Value} {x : Int32} : G d 244 712 [l0, l1, l2, l3, l4, l5, l6, l7, l8] (.int x :: st) σ Q ↔ G d 244 713 [l0, l1, l2, l3, ykl l4, some (.int x), l6, l7, l8] st σ Q := by
  cases l4 with
  | none => exact gs_go f_244_712 rfl
  | some v => cases v <;> exact gs_go f_244_712 rfl
theorem f_244_713 : ft 244 713 = some (1224, .aload_n 2, []) := rfl
theorem s_244_713 {d : Nat} {σ : xS} {st : List Value} {Q : xR → xS → Prop} {l0 l1 l3 l4 l5 l6 l7 l8 : Option Value} {x : Nat} : G d 244 713 [l0, l1, some (.ref x), l3, l4, l5, l6, l7, l8] st σ Q ↔ G d 244 714 [l0, l1, some (.ref x), l3, l4, l5, l6, l7, l8] (.ref x :: st) σ Q := gs_go f_244_713 rfl
theorem f_244_714 : ft 244 714 = some (1225, .aload_n 0, []) := rfl
theorem s_244_714 {d : Nat} {σ : xS} {st : List Value} {Q : xR → xS → Prop} {l1 l2 l3 l4 l5 l6 l7 l8 : Option Value} {x : Nat} : G d 244 714 [some (.ref x), l1, l2, l3, l4, l5, l6, l7, l8] st σ Q ↔ G d 244 715 [some (.ref x), l1, l2, l3, l4, l5, l6, l7, l8] (.ref x :: st) σ Q := gs_go f_244_714 rfl
theorem f_244_715 : ft 244 715 = some (1226, .iload 4, []) := rfl
theorem s_244_715 {d : Nat} {σ : xS} {st : List Value} {Q : xR → xS → Prop} {l0 l1 l2 l3 l5 l6 l7 l8 : Option Value} {x : Int32} : G d 244 715 [l0, l1, l2, l3, some (.int x), l5, l6, l7, l8] st σ Q ↔ G d 244 716 [l0, l1, l2, l3, some (.int x), l5, l6, l7, l8] (.int x :: st) σ Q := gs_go f_244_715 rfl
theorem f_244_716 : ft 244 716 = some (1228, .iconst 1, []) := rfl
theorem s_244_716 {d : Nat} {σ : xS} {st : List Value} {Q : xR → xS → Prop} {l0 l1 l2 l3 l4 l5 l6 l7 l8 : Option Value} : G d 244 716 [l0, l1, l2, l3, l4, l5, l6, l7, l8] st σ Q ↔ G d 244 717 [l0, l1, l2, l3, l4, l5, l6, l7, l8] (.int (1) :: st) σ Q := gs_go f_244_716 rfl
theorem f_244_717 : ft 244 717 = some (1229, .iadd, []) := rfl
theorem s_244_717 {d : Nat} {σ : xS} {st : List Value} {Q : xR → xS → Prop} {l0 l1 l2 l3 l4 l5 l6 l7 l8 : Option Value} {x y : Int32} : G d 244 717 [l0, l1, l2, l3, l4, l5, l6, l7, l8] (.int y :: .int x :: st) σ Q ↔ G d 244 718 [l0, l1, l2, l3, l4, l5, l6, l7, l8] (.int (x + y) :: st) σ Q := gs_go f_244_717 rfl
theorem f_244_718 : ft 244 718 = some (1230, .iaload, []) := rfl
theorem s_244_718 {d : Nat} {t : yT} {st : List Value} {Q : xR → xS → Prop} {l0 l1 l2 l3 l4 l5 l6 l7 l8 : Option Value} {a : Nat} {x : Int32} (ha : yA 0 a) : G d 244 718 [l0, l1, l2, l3, l4, l5, l6, l7, l8] (.int x :: .ref a :: st) (yemb t) Q ↔ yix x (yn a) ∧ G d 244 719 [l0, l1, l2, l3, l4, l5, l6, l7, l8] (.int (t.A a x.toNatClampNeg) :: st) (yemb t) Q := gs_iald f_244_718 ha
theorem f_244_719 : ft 244 719 = some (1231, .aload_n 0, []) := rfl
theorem s_244_719 {d : Nat} {σ : xS} {st : List Value} {Q : xR → xS → Prop} {l1 l2 l3 l4 l5 l6 l7 l8 : Option Value} {x : Nat} : G d 244 719 [some (.ref x), l1, l2, l3, l4, l5, l6, l7, l8] st σ Q ↔ G d 244 720 [some (.ref x), l1, l2, l3, l4, l5, l6, l7, l8] (.ref x :: st) σ Q := gs_go f_244_719 rfl
theorem f_244_720 : ft 244 720 = some (1232, .iload 4, []) := rfl
theorem s_244_720 {d : Nat} {σ : xS} {st : List Value} {Q : xR → xS → Prop} {l0 l1 l2 l3 l5 l6 l7 l8 : Option Value} {x : Int32} : G d 244 720 [l0, l1, l2, l3, some (.int x), l5, l6, l7, l8] st σ Q ↔ G d 244 721 [l0, l1, l2, l3, some (.int x), l5, l6, l7, l8] (.int x :: st) σ Q := gs_go f_244_720 rfl
theorem f_244_721 : ft 244 721 = some (1234, .iconst 2, []) := rfl
theorem s_244_721 {d : Nat} {σ : xS} {st : List Value} {Q : xR → xS → Prop} {l0 l1 l2 l3 l4 l5 l6 l7 l8 : Option Value} : G d 244 721 [l0, l1, l2, l3, l4, l5, l6, l7, l8] st σ Q ↔ G d 244 722 [l0, l1, l2, l3, l4, l5, l6, l7, l8] (.int (2) :: st) σ Q := gs_go f_244_721 rfl
theorem f_244_722 : ft 244 722 = some (1235, .iadd, []) := rfl
theorem s_244_722 {d : Nat} {σ : xS} {st : List Value} {Q : xR → xS → Prop} {l0 l1 l2 l3 l4 l5 l6 l7 l8 : Option Value} {x y : Int32} : G d 244 722 [l0, l1, l2, l3, l4, l5, l6, l7, l8] (.int y :: .int x :: st) σ Q ↔ G d 244 723 [l0, l1, l2, l3, l4, l5, l6, l7, l8] (.int (x + y) :: st) σ Q := gs_go f_244_722 rfl
theorem f_244_723 : ft 244 723 = some (1236, .iaload, []) := rfl
theorem s_244_723 {d : Nat} {t : yT} {st : List Value} {Q : xR → xS → Prop} {l0 l1 l2 l3 l4 l5 l6 l7 l8 : Option Value} {a : Nat} {x : Int32} (ha : yA 0 a) : G d 244 723 [l0, l1, l2, l3, l4, l5, l6, l7, l8] (.int x :: .ref a :: st) (yemb t) Q ↔ yix x (yn a) ∧ G d 244 724 [l0, l1, l2, l3, l4, l5, l6, l7, l8] (.int (t.A a x.toNatClampNeg) :: st) (yemb t) Q := gs_iald f_244_723 ha
theorem f_244_724 : ft 244 724 = some (1237, .aload_n 0, []) := rfl
theorem s_244_724 {d : Nat} {σ : xS} {st : List Value} {Q : xR → xS → Prop} {l1 l2 l3 l4 l5 l6 l7 l8 : Option Value} {x : Nat} : G d 244 724 [some (.ref x), l1, l2, l3, l4, l5, l6, l7, l8] st σ Q ↔ G d 244 725 [some (.ref x), l1, l2, l3, l4, l5, l6, l7, l8] (.ref x :: st) σ Q := gs_go f_244_724 rfl
theorem f_244_725 : ft 244 725 = some (1238, .iload 4, []) := rfl
theorem s_244_725 {d : Nat} {σ : xS} {st : List Value} {Q : xR → xS → Prop} {l0 l1 l2 l3 l5 l6 l7 l8 : Option Value} {x : Int32} : G d 244 725 [l0, l1, l2, l3, some (.int x), l5, l6, l7, l8] st σ Q ↔ G d 244 726 [l0, l1, l2, l3, some (.int x), l5, l6, l7, l8] (.int x :: st) σ Q := gs_go f_244_725 rfl
theorem f_244_726 : ft 244 726 = some (1240, .iconst 3, []) := rfl
theorem s_244_726 {d : Nat} {σ : xS} {st : List Value} {Q : xR → xS → Prop} {l0 l1 l2 l3 l4 l5 l6 l7 l8 : Option Value} : G d 244 726 [l0, l1, l2, l3, l4, l5, l6, l7, l8] st σ Q ↔ G d 244 727 [l0, l1, l2, l3, l4, l5, l6, l7, l8] (.int (3) :: st) σ Q := gs_go f_244_726 rfl
theorem f_244_727 : ft 244 727 = some (1241, .iadd, []) := rfl
theorem s_244_727 {d : Nat} {σ : xS} {st : List Value} {Q : xR → xS → Prop} {l0 l1 l2 l3 l4 l5 l6 l7 l8 : Option Value} {x y : Int32} : G d 244 727 [l0, l1, l2, l3, l4, l5, l6, l7, l8] (.int y :: .int x :: st) σ Q ↔ G d 244 728 [l0, l1, l2, l3, l4, l5, l6, l7, l8] (.int (x + y) :: st) σ Q := gs_go f_244_727 rfl
theorem f_244_728 : ft 244 728 = some (1242, .iaload, []) := rfl
theorem s_244_728 {d : Nat} {t : yT} {st : List Value} {Q : xR → xS → Prop} {l0 l1 l2 l3 l4 l5 l6 l7 l8 : Option Value} {a : Nat} {x : Int32} (ha : yA 0 a) : G d 244 728 [l0, l1, l2, l3, l4, l5, l6, l7, l8] (.int x :: .ref a :: st) (yemb t) Q ↔ yix x (yn a) ∧ G d 244 729 [l0, l1, l2, l3, l4, l5, l6, l7, l8] (.int (t.A a x.toNatClampNeg) :: st) (yemb t) Q := gs_iald f_244_728 ha
theorem f_244_729 : ft 244 729 = some (1243, .invokevirtual 157, [209, 4, 0, 1624]) := rfl
theorem s_244_729 {d : Nat} {t : yT} {st : List Value} {Q : xR → xS → Prop} {l0 l1 l2 l3 l4 l5 l6 l7 l8 : Option Value} {a0 : Nat} {a1 : Int32} {a2 : Int32} {a3 : Int32} (ho : yisO 8 a0) : G (d + 1) 244 729 [l0, l1, l2, l3, l4, l5, l6, l7, l8] (.int a3 :: .int a2 :: .int a1 :: .ref a0 :: st) (yemb t) Q ↔ xcat st ≤ 8 ∧ Cl d 209 [.ref a0, .int a1, .int a2, .int a3] (yemb t) (Gk (d + 1) 244 729 [l0, l1, l2, l3, l4, l5, l6, l7, l8] st Q) := gs_call f_244_729 ((xinv_call (i := 729) (n := 1624) (ls := [l0, l1, l2, l3, l4, l5, l6, l7, l8]) (kind := 0) (σ := yemb t) (by decide)).trans (xcall_vi [.int a3, .int a2, .int a1, .ref a0] rfl rfl (show (4 : Nat) ≤ 5 by decide) rfl ho))
theorem f_244_730 : ft 244 730 = some (1246, .istore 6, []) := rfl
theorem s_244_730 {d : Nat} {σ : xS} {st : List Value} {Q : xR → xS → Prop} {l0 l1 l2 l3 l4 l5 l6 l7 l8 : Option Value} {x : Int32} : G d 244 730 [l0, l1, l2, l3, l4, l5, l6, l7, l8] (.int x :: st) σ Q ↔ G d 244 731 [l0, l1, l2, l3, l4, ykl l5, some (.int x), l7, l8] st σ Q := by
  cases l5 with
  | none => exact gs_go f_244_730 rfl
  | some v => cases v <;> exact gs_go f_244_730 rfl
theorem f_244_731 : ft 244 731 = some (1248, .aload_n 2, []) := rfl
theorem s_244_731 {d : Nat} {σ : xS} {st : List Value} {Q : xR → xS → Prop} {l0 l1 l3 l4 l5 l6 l7 l8 : Option Value} {x : Nat} : G d 244 731 [l0, l1, some (.ref x), l3, l4, l5, l6, l7, l8] st σ Q ↔ G d 244 732 [l0, l1, some (.ref x), l3, l4, l5, l6, l7, l8] (.ref x :: st) σ Q := gs_go f_244_731 rfl
theorem f_244_732 : ft 244 732 = some (1249, .invokevirtual 91, [123, 1, 0, 1277]) := rfl
theorem s_244_732 {d : Nat} {t : yT} {st : List Value} {Q : xR → xS → Prop} {l0 l1 l2 l3 l4 l5 l6 l7 l8 : Option Value} {a0 : Nat} (ho : yisO 8 a0) : G (d + 1) 244 732 [l0, l1, l2, l3, l4, l5, l6, l7, l8] (.ref a0 :: st) (yemb t) Q ↔ xcat st ≤ 8 ∧ Cl d 123 [.ref a0] (yemb t) (Gk (d + 1) 244 732 [l0, l1, l2, l3, l4, l5, l6, l7, l8] st Q) := gs_call f_244_732 ((xinv_call (i := 732) (n := 1277) (ls := [l0, l1, l2, l3, l4, l5, l6, l7, l8]) (kind := 0) (σ := yemb t) (by decide)).trans (xcall_vi [.ref a0] rfl rfl (show (1 : Nat) ≤ 1 by decide) rfl ho))
theorem f_244_733 : ft 244 733 = some (1252, .iload 5, []) := rfl
theorem s_244_733 {d : Nat} {σ : xS} {st : List Value} {Q : xR → xS → Prop} {l0 l1 l2 l3 l4 l6 l7 l8 : Option Value} {x : Int32} : G d 244 733 [l0, l1, l2, l3, l4, some (.int x), l6, l7, l8] st σ Q ↔ G d 244 734 [l0, l1, l2, l3, l4, some (.int x), l6, l7, l8] (.int x :: st) σ Q := gs_go f_244_733 rfl
theorem f_244_734 : ft 244 734 = some (1254, .if_icmp .eq 5, [737]) := rfl
theorem s_244_734 {d : Nat} {σ : xS} {st : List Value} {Q : xR → xS → Prop} {l0 l1 l2 l3 l4 l5 l6 l7 l8 : Option Value} {x y : Int32} : G d 244 734 [l0, l1, l2, l3, l4, l5, l6, l7, l8] (.int y :: .int x :: st) σ Q ↔ if x = y then G d 244 737 [l0, l1, l2, l3, l4, l5, l6, l7, l8] st σ Q else G d 244 735 [l0, l1, l2, l3, l4, l5, l6, l7, l8] st σ Q := gs_if f_244_734 rfl
theorem f_244_735 : ft 244 735 = some (1257, .iconst 0, []) := rfl
theorem s_244_735 {d : Nat} {σ : xS} {st : List Value} {Q : xR → xS → Prop} {l0 l1 l2 l3 l4 l5 l6 l7 l8 : Option Value} : G d 244 735 [l0, l1, l2, l3, l4, l5, l6, l7, l8] st σ Q ↔ G d 244 736 [l0, l1, l2, l3, l4, l5, l6, l7, l8] (.int (0) :: st) σ Q := gs_go f_244_735 rfl
theorem f_244_736 : ft 244 736 = some (1258, .ireturn, []) := rfl
theorem s_244_736 {d : Nat} {σ : xS} {ls : xL} {Q : xR → xS → Prop} {x : Int32} : G d 244 736 ls [.int x] σ Q ↔ ybo x ∧ Q (.inl (some (.int x))) σ := gs_retb f_244_736 rfl
theorem f_244_737 : ft 244 737 = some (1259, .iload 5, []) := rfl
theorem s_244_737 {d : Nat} {σ : xS} {st : List Value} {Q : xR → xS → Prop} {l0 l1 l2 l3 l4 l6 l7 l8 : Option Value} {x : Int32} : G d 244 737 [l0, l1, l2, l3, l4, some (.int x), l6, l7, l8] st σ Q ↔ G d 244 738 [l0, l1, l2, l3, l4, some (.int x), l6, l7, l8] (.int x :: st) σ Q := gs_go f_244_737 rfl
theorem f_244_738 : ft 244 738 = some (1261, .ifCond .ne 15, [748]) := rfl
theorem s_244_738 {d : Nat} {σ : xS} {st : List Value} {Q : xR → xS → Prop} {l0 l1 l2 l3 l4 l5 l6 l7 l8 : Option Value} {x : Int32} : G d 244 738 [l0, l1, l2, l3, l4, l5, l6, l7, l8] (.int x :: st) σ Q ↔ if x ≠ 0 then G d 244 748 [l0, l1, l2, l3, l4, l5, l6, l7, l8] st σ Q else G d 244 739 [l0, l1, l2, l3, l4, l5, l6, l7, l8] st σ Q := gs_if f_244_738 rfl
theorem f_244_739 : ft 244 739 = some (1264, .aload_n 3, []) := rfl
theorem s_244_739 {d : Nat} {σ : xS} {st : List Value} {Q : xR → xS → Prop} {l0 l1 l2 l4 l5 l6 l7 l8 : Option Value} {x : Nat} : G d 244 739 [l0, l1, l2, some (.ref x), l4, l5, l6, l7, l8] st σ Q ↔ G d 244 740 [l0, l1, l2, some (.ref x), l4, l5, l6, l7, l8] (.ref x :: st) σ Q := gs_go f_244_739 rfl
theorem f_244_740 : ft 244 740 = some (1265, .iconst 0, []) := rfl
theorem s_244_740 {d : Nat} {σ : xS} {st : List Value} {Q : xR → xS → Prop} {l0 l1 l2 l3 l4 l5 l6 l7 l8 : Option Value} : G d 244 740 [l0, l1, l2, l3, l4, l5, l6, l7, l8] st σ Q ↔ G d 244 741 [l0, l1, l2, l3, l4, l5, l6, l7, l8] (.int (0) :: st) σ Q := gs_go f_244_740 rfl
theorem f_244_741 : ft 244 741 = some (1266, .laload, []) := rfl
theorem s_244_741 {d : Nat} {t : yT} {st : List Value} {Q : xR → xS → Prop} {l0 l1 l2 l3 l4 l5 l6 l7 l8 : Option Value} {a : Nat} {x : Int32} (ha : yLA a) : G d 244 741 [l0, l1, l2, l3, l4, l5, l6, l7, l8] (.int x :: .ref a :: st) (yemb t) Q ↔ yix x (yn a) ∧ G d 244 742 [l0, l1, l2, l3, l4, l5, l6, l7, l8] (.long (t.L a x.toNatClampNeg) :: st) (yemb t) Q := gs_lald f_244_741 ha
theorem f_244_742 : ft 244 742 = some (1267, .iload 6, []) := rfl
theorem s_244_742 {d : Nat} {σ : xS} {st : List Value} {Q : xR → xS → Prop} {l0 l1 l2 l3 l4 l5 l7 l8 : Option Value} {x : Int32} : G d 244 742 [l0, l1, l2, l3, l4, l5, some (.int x), l7, l8] st σ Q ↔ G d 244 743 [l0, l1, l2, l3, l4, l5, some (.int x), l7, l8] (.int x :: st) σ Q := gs_go f_244_742 rfl
theorem f_244_743 : ft 244 743 = some (1269, .i2l, []) := rfl
theorem s_244_743 {d : Nat} {σ : xS} {st : List Value} {Q : xR → xS → Prop} {l0 l1 l2 l3 l4 l5 l6 l7 l8 : Option Value} {x : Int32} : G d 244 743 [l0, l1, l2, l3, l4, l5, l6, l7, l8] (.int x :: st) σ Q ↔ G d 244 744 [l0, l1, l2, l3, l4, l5, l6, l7, l8] (.long x.toInt64 :: st) σ Q := gs_go f_244_743 rfl
theorem f_244_744 : ft 244 744 = some (1270, .lcmp, []) := rfl
theorem s_244_744 {d : Nat} {σ : xS} {st : List Value} {Q : xR → xS → Prop} {l0 l1 l2 l3 l4 l5 l6 l7 l8 : Option Value} {x y : Int64} : G d 244 744 [l0, l1, l2, l3, l4, l5, l6, l7, l8] (.long y :: .long x :: st) σ Q ↔ G d 244 745 [l0, l1, l2, l3, l4, l5, l6, l7, l8] (.int (lg_cmp x y) :: st) σ Q := gs_go f_244_744 rfl
theorem f_244_745 : ft 244 745 = some (1271, .ifCond .eq 5, [748]) := rfl
theorem s_244_745 {d : Nat} {σ : xS} {st : List Value} {Q : xR → xS → Prop} {l0 l1 l2 l3 l4 l5 l6 l7 l8 : Option Value} {x : Int32} : G d 244 745 [l0, l1, l2, l3, l4, l5, l6, l7, l8] (.int x :: st) σ Q ↔ if x = 0 then G d 244 748 [l0, l1, l2, l3, l4, l5, l6, l7, l8] st σ Q else G d 244 746 [l0, l1, l2, l3, l4, l5, l6, l7, l8] st σ Q := gs_if f_244_745 rfl
theorem f_244_746 : ft 244 746 = some (1274, .iconst 0, []) := rfl
theorem s_244_746 {d : Nat} {σ : xS} {st : List Value} {Q : xR → xS → Prop} {l0 l1 l2 l3 l4 l5 l6 l7 l8 : Option Value} : G d 244 746 [l0, l1, l2, l3, l4, l5, l6, l7, l8] st σ Q ↔ G d 244 747 [l0, l1, l2, l3, l4, l5, l6, l7, l8] (.int (0) :: st) σ Q := gs_go f_244_746 rfl
theorem f_244_747 : ft 244 747 = some (1275, .ireturn, []) := rfl
theorem s_244_747 {d : Nat} {σ : xS} {ls : xL} {Q : xR → xS → Prop} {x : Int32} : G d 244 747 ls [.int x] σ Q ↔ ybo x ∧ Q (.inl (some (.int x))) σ := gs_retb f_244_747 rfl
theorem f_244_748 : ft 244 748 = some (1276, .goto 210, [879]) := rfl
theorem s_244_748 {d : Nat} {σ : xS} {st : List Value} {Q : xR → xS → Prop} {l0 l1 l2 l3 l4 l5 l6 l7 l8 : Option Value} : G d 244 748 [l0, l1, l2, l3, l4, l5, l6, l7, l8] st σ Q ↔ G d 244 879 [l0, l1, l2, l3, l4, l5, l6, l7, l8] st σ Q := gs_go f_244_748 rfl
theorem f_244_749 : ft 244 749 = some (1279, .aload_n 1, []) := rfl
theorem s_244_749 {d : Nat} {σ : xS} {st : List Value} {Q : xR → xS → Prop} {l0 l2 l3 l4 l5 l6 l7 l8 : Option Value} {x : Nat} : G d 244 749 [l0, some (.ref x), l2, l3, l4, l5, l6, l7, l8] st σ Q ↔ G d 244 750 [l0, some (.ref x), l2, l3, l4, l5, l6, l7, l8] (.ref x :: st) σ Q := gs_go f_244_749 rfl
theorem f_244_750 : ft 244 750 = some (1280, .aload_n 0, []) := rfl
theorem s_244_750 {d : Nat} {σ : xS} {st : List Value} {Q : xR → xS → Prop} {l1 l2 l3 l4 l5 l6 l7 l8 : Option Value} {x : Nat} : G d 244 750 [some (.ref x), l1, l2, l3, l4, l5, l6, l7, l8] st σ Q ↔ G d 244 751 [some (.ref x), l1, l2, l3, l4, l5, l6, l7, l8] (.ref x :: st) σ Q := gs_go f_244_750 rfl
theorem f_244_751 : ft 244 751 = some (1281, .iload 4, []) := rfl
theorem s_244_751 {d : Nat} {σ : xS} {st : List Value} {Q : xR → xS → Prop} {l0 l1 l2 l3 l5 l6 l7 l8 : Option Value} {x : Int32} : G d 244 751 [l0, l1, l2, l3, some (.int x), l5, l6, l7, l8] st σ Q ↔ G d 244 752 [l0, l1, l2, l3, some (.int x), l5, l6, l7, l8] (.int x :: st) σ Q := gs_go f_244_751 rfl
theorem f_244_752 : ft 244 752 = some (1283, .iconst 1, []) := rfl
theorem s_244_752 {d : Nat} {σ : xS} {st : List Value} {Q : xR → xS → Prop} {l0 l1 l2 l3 l4 l5 l6 l7 l8 : Option Value} : G d 244 752 [l0, l1, l2, l3, l4, l5, l6, l7, l8] st σ Q ↔ G d 244 753 [l0, l1, l2, l3, l4, l5, l6, l7, l8] (.int (1) :: st) σ Q := gs_go f_244_752 rfl
theorem f_244_753 : ft 244 753 = some (1284, .iadd, []) := rfl
theorem s_244_753 {d : Nat} {σ : xS} {st : List Value} {Q : xR → xS → Prop} {l0 l1 l2 l3 l4 l5 l6 l7 l8 : Option Value} {x y : Int32} : G d 244 753 [l0, l1, l2, l3, l4, l5, l6, l7, l8] (.int y :: .int x :: st) σ Q ↔ G d 244 754 [l0, l1, l2, l3, l4, l5, l6, l7, l8] (.int (x + y) :: st) σ Q := gs_go f_244_753 rfl
theorem f_244_754 : ft 244 754 = some (1285, .iaload, []) := rfl
theorem s_244_754 {d : Nat} {t : yT} {st : List Value} {Q : xR → xS → Prop} {l0 l1 l2 l3 l4 l5 l6 l7 l8 : Option Value} {a : Nat} {x : Int32} (ha : yA 0 a) : G d 244 754 [l0, l1, l2, l3, l4, l5, l6, l7, l8] (.int x :: .ref a :: st) (yemb t) Q ↔ yix x (yn a) ∧ G d 244 755 [l0, l1, l2, l3, l4, l5, l6, l7, l8] (.int (t.A a x.toNatClampNeg) :: st) (yemb t) Q := gs_iald f_244_754 ha
theorem f_244_755 : ft 244 755 = some (1286, .aload_n 0, []) := rfl
theorem s_244_755 {d : Nat} {σ : xS} {st : List Value} {Q : xR → xS → Prop} {l1 l2 l3 l4 l5 l6 l7 l8 : Option Value} {x : Nat} : G d 244 755 [some (.ref x), l1, l2, l3, l4, l5, l6, l7, l8] st σ Q ↔ G d 244 756 [some (.ref x), l1, l2, l3, l4, l5, l6, l7, l8] (.ref x :: st) σ Q := gs_go f_244_755 rfl
theorem f_244_756 : ft 244 756 = some (1287, .iload 4, []) := rfl
theorem s_244_756 {d : Nat} {σ : xS} {st : List Value} {Q : xR → xS → Prop} {l0 l1 l2 l3 l5 l6 l7 l8 : Option Value} {x : Int32} : G d 244 756 [l0, l1, l2, l3, some (.int x), l5, l6, l7, l8] st σ Q ↔ G d 244 757 [l0, l1, l2, l3, some (.int x), l5, l6, l7, l8] (.int x :: st) σ Q := gs_go f_244_756 rfl
theorem f_244_757 : ft 244 757 = some (1289, .iconst 2, []) := rfl
theorem s_244_757 {d : Nat} {σ : xS} {st : List Value} {Q : xR → xS → Prop} {l0 l1 l2 l3 l4 l5 l6 l7 l8 : Option Value} : G d 244 757 [l0, l1, l2, l3, l4, l5, l6, l7, l8] st σ Q ↔ G d 244 758 [l0, l1, l2, l3, l4, l5, l6, l7, l8] (.int (2) :: st) σ Q := gs_go f_244_757 rfl
theorem f_244_758 : ft 244 758 = some (1290, .iadd, []) := rfl
theorem s_244_758 {d : Nat} {σ : xS} {st : List Value} {Q : xR → xS → Prop} {l0 l1 l2 l3 l4 l5 l6 l7 l8 : Option Value} {x y : Int32} : G d 244 758 [l0, l1, l2, l3, l4, l5, l6, l7, l8] (.int y :: .int x :: st) σ Q ↔ G d 244 759 [l0, l1, l2, l3, l4, l5, l6, l7, l8] (.int (x + y) :: st) σ Q := gs_go f_244_758 rfl
theorem f_244_759 : ft 244 759 = some (1291, .iaload, []) := rfl
theorem s_244_759 {d : Nat} {t : yT} {st : List Value} {Q : xR → xS → Prop} {l0 l1 l2 l3 l4 l5 l6 l7 l8 : Option Value} {a : Nat} {x : Int32} (ha : yA 0 a) : G d 244 759 [l0, l1, l2, l3, l4, l5, l6, l7, l8] (.int x :: .ref a :: st) (yemb t) Q ↔ yix x (yn a) ∧ G d 244 760 [l0, l1, l2, l3, l4, l5, l6, l7, l8] (.int (t.A a x.toNatClampNeg) :: st) (yemb t) Q := gs_iald f_244_759 ha
theorem f_244_760 : ft 244 760 = some (1292, .aload_n 3, []) := rfl
theorem s_244_760 {d : Nat} {σ : xS} {st : List Value} {Q : xR → xS → Prop} {l0 l1 l2 l4 l5 l6 l7 l8 : Option Value} {x : Nat} : G d 244 760 [l0, l1, l2, some (.ref x), l4, l5, l6, l7, l8] st σ Q ↔ G d 244 761 [l0, l1, l2, some (.ref x), l4, l5, l6, l7, l8] (.ref x :: st) σ Q := gs_go f_244_760 rfl
theorem f_244_761 : ft 244 761 = some (1293, .invokestatic 158, [241, 4, 6, 1139]) := rfl
theorem s_244_761 {d : Nat} {σ : xS} {st : List Value} {Q : xR → xS → Prop} {l0 l1 l2 l3 l4 l5 l6 l7 l8 : Option Value} {a0 : Nat} {a1 : Int32} {a2 : Int32} {a3 : Nat} : G (d + 1) 244 761 [l0, l1, l2, l3, l4, l5, l6, l7, l8] (.ref a3 :: .int a2 :: .int a1 :: .ref a0 :: st) σ Q ↔ xcat st ≤ 8 ∧ Cl d 241 [.ref a0, .int a1, .int a2, .ref a3] σ (Gk (d + 1) 244 761 [l0, l1, l2, l3, l4, l5, l6, l7, l8] st Q) := gs_call f_244_761 ((xinv_call (i := 761) (n := 1139) (ls := [l0, l1, l2, l3, l4, l5, l6, l7, l8]) (kind := 6) (σ := σ) (by decide)).trans (xcall_st [.ref a3, .int a2, .int a1, .ref a0] rfl (by decide) (show (4 : Nat) ≤ 5 by decide)))
theorem f_244_762 : ft 244 762 = some (1296, .istore 5, []) := rfl
theorem s_244_762 {d : Nat} {σ : xS} {st : List Value} {Q : xR → xS → Prop} {l0 l1 l2 l3 l4 l5 l6 l7 l8 : Option Value} {x : Int32} : G d 244 762 [l0, l1, l2, l3, l4, l5, l6, l7, l8] (.int x :: st) σ Q ↔ G d 244 763 [l0, l1, l2, l3, ykl l4, some (.int x), l6, l7, l8] st σ Q := by
  cases l4 with
  | none => exact gs_go f_244_762 rfl
  | some v => cases v <;> exact gs_go f_244_762 rfl
theorem f_244_763 : ft 244 763 = some (1298, .aload_n 2, []) := rfl
theorem s_244_763 {d : Nat} {σ : xS} {st : List Value} {Q : xR → xS → Prop} {l0 l1 l3 l4 l5 l6 l7 l8 : Option Value} {x : Nat} : G d 244 763 [l0, l1, some (.ref x), l3, l4, l5, l6, l7, l8] st σ Q ↔ G d 244 764 [l0, l1, some (.ref x), l3, l4, l5, l6, l7, l8] (.ref x :: st) σ Q := gs_go f_244_763 rfl
theorem f_244_764 : ft 244 764 = some (1299, .aload_n 0, []) := rfl
theorem s_244_764 {d : Nat} {σ : xS} {st : List Value} {Q : xR → xS → Prop} {l1 l2 l3 l4 l5 l6 l7 l8 : Option Value} {x : Nat} : G d 244 764 [some (.ref x), l1, l2, l3, l4, l5, l6, l7, l8] st σ Q ↔ G d 244 765 [some (.ref x), l1, l2, l3, l4, l5, l6, l7, l8] (.ref x :: st) σ Q := gs_go f_244_764 rfl
theorem f_244_765 : ft 244 765 = some (1300, .iload 4, []) := rfl
theorem s_244_765 {d : Nat} {σ : xS} {st : List Value} {Q : xR → xS → Prop} {l0 l1 l2 l3 l5 l6 l7 l8 : Option Value} {x : Int32} : G d 244 765 [l0, l1, l2, l3, some (.int x), l5, l6, l7, l8] st σ Q ↔ G d 244 766 [l0, l1, l2, l3, some (.int x), l5, l6, l7, l8] (.int x :: st) σ Q := gs_go f_244_765 rfl
theorem f_244_766 : ft 244 766 = some (1302, .iconst 1, []) := rfl
theorem s_244_766 {d : Nat} {σ : xS} {st : List Value} {Q : xR → xS → Prop} {l0 l1 l2 l3 l4 l5 l6 l7 l8 : Option Value} : G d 244 766 [l0, l1, l2, l3, l4, l5, l6, l7, l8] st σ Q ↔ G d 244 767 [l0, l1, l2, l3, l4, l5, l6, l7, l8] (.int (1) :: st) σ Q := gs_go f_244_766 rfl
theorem f_244_767 : ft 244 767 = some (1303, .iadd, []) := rfl
theorem s_244_767 {d : Nat} {σ : xS} {st : List Value} {Q : xR → xS → Prop} {l0 l1 l2 l3 l4 l5 l6 l7 l8 : Option Value} {x y : Int32} : G d 244 767 [l0, l1, l2, l3, l4, l5, l6, l7, l8] (.int y :: .int x :: st) σ Q ↔ G d 244 768 [l0, l1, l2, l3, l4, l5, l6, l7, l8] (.int (x + y) :: st) σ Q := gs_go f_244_767 rfl
theorem f_244_768 : ft 244 768 = some (1304, .iaload, []) := rfl
theorem s_244_768 {d : Nat} {t : yT} {st : List Value} {Q : xR → xS → Prop} {l0 l1 l2 l3 l4 l5 l6 l7 l8 : Option Value} {a : Nat} {x : Int32} (ha : yA 0 a) : G d 244 768 [l0, l1, l2, l3, l4, l5, l6, l7, l8] (.int x :: .ref a :: st) (yemb t) Q ↔ yix x (yn a) ∧ G d 244 769 [l0, l1, l2, l3, l4, l5, l6, l7, l8] (.int (t.A a x.toNatClampNeg) :: st) (yemb t) Q := gs_iald f_244_768 ha
theorem f_244_769 : ft 244 769 = some (1305, .aload_n 0, []) := rfl
theorem s_244_769 {d : Nat} {σ : xS} {st : List Value} {Q : xR → xS → Prop} {l1 l2 l3 l4 l5 l6 l7 l8 : Option Value} {x : Nat} : G d 244 769 [some (.ref x), l1, l2, l3, l4, l5, l6, l7, l8] st σ Q ↔ G d 244 770 [some (.ref x), l1, l2, l3, l4, l5, l6, l7, l8] (.ref x :: st) σ Q := gs_go f_244_769 rfl
theorem f_244_770 : ft 244 770 = some (1306, .iload 4, []) := rfl
theorem s_244_770 {d : Nat} {σ : xS} {st : List Value} {Q : xR → xS → Prop} {l0 l1 l2 l3 l5 l6 l7 l8 : Option Value} {x : Int32} : G d 244 770 [l0, l1, l2, l3, some (.int x), l5, l6, l7, l8] st σ Q ↔ G d 244 771 [l0, l1, l2, l3, some (.int x), l5, l6, l7, l8] (.int x :: st) σ Q := gs_go f_244_770 rfl
theorem f_244_771 : ft 244 771 = some (1308, .iconst 2, []) := rfl
theorem s_244_771 {d : Nat} {σ : xS} {st : List Value} {Q : xR → xS → Prop} {l0 l1 l2 l3 l4 l5 l6 l7 l8 : Option Value} : G d 244 771 [l0, l1, l2, l3, l4, l5, l6, l7, l8] st σ Q ↔ G d 244 772 [l0, l1, l2, l3, l4, l5, l6, l7, l8] (.int (2) :: st) σ Q := gs_go f_244_771 rfl
theorem f_244_772 : ft 244 772 = some (1309, .iadd, []) := rfl
theorem s_244_772 {d : Nat} {σ : xS} {st : List Value} {Q : xR → xS → Prop} {l0 l1 l2 l3 l4 l5 l6 l7 l8 : Option Value} {x y : Int32} : G d 244 772 [l0, l1, l2, l3, l4, l5, l6, l7, l8] (.int y :: .int x :: st) σ Q ↔ G d 244 773 [l0, l1, l2, l3, l4, l5, l6, l7, l8] (.int (x + y) :: st) σ Q := gs_go f_244_772 rfl
theorem f_244_773 : ft 244 773 = some (1310, .iaload, []) := rfl
theorem s_244_773 {d : Nat} {t : yT} {st : List Value} {Q : xR → xS → Prop} {l0 l1 l2 l3 l4 l5 l6 l7 l8 : Option Value} {a : Nat} {x : Int32} (ha : yA 0 a) : G d 244 773 [l0, l1, l2, l3, l4, l5, l6, l7, l8] (.int x :: .ref a :: st) (yemb t) Q ↔ yix x (yn a) ∧ G d 244 774 [l0, l1, l2, l3, l4, l5, l6, l7, l8] (.int (t.A a x.toNatClampNeg) :: st) (yemb t) Q := gs_iald f_244_773 ha
theorem f_244_774 : ft 244 774 = some (1311, .invokevirtual 160, [210, 3, 0, 1628]) := rfl
theorem s_244_774 {d : Nat} {t : yT} {st : List Value} {Q : xR → xS → Prop} {l0 l1 l2 l3 l4 l5 l6 l7 l8 : Option Value} {a0 : Nat} {a1 : Int32} {a2 : Int32} (ho : yisO 8 a0) : G (d + 1) 244 774 [l0, l1, l2, l3, l4, l5, l6, l7, l8] (.int a2 :: .int a1 :: .ref a0 :: st) (yemb t) Q ↔ xcat st ≤ 8 ∧ Cl d 210 [.ref a0, .int a1, .int a2] (yemb t) (Gk (d + 1) 244 774 [l0, l1, l2, l3, l4, l5, l6, l7, l8] st Q) := gs_call f_244_774 ((xinv_call (i := 774) (n := 1628) (ls := [l0, l1, l2, l3, l4, l5, l6, l7, l8]) (kind := 0) (σ := yemb t) (by decide)).trans (xcall_vi [.int a2, .int a1, .ref a0] rfl rfl (show (3 : Nat) ≤ 4 by decide) rfl ho))
theorem f_244_775 : ft 244 775 = some (1314, .istore 6, []) := rfl
theorem s_244_775 {d : Nat} {σ : xS} {st : List Value} {Q : xR → xS → Prop} {l0 l1 l2 l3 l4 l5 l6 l7 l8 : Option Value} {x : Int32} : G d 244 775 [l0, l1, l2, l3, l4, l5, l6, l7, l8] (.int x :: st) σ Q ↔ G d 244 776 [l0, l1, l2, l3, l4, ykl l5, some (.int x), l7, l8] st σ Q := by
  cases l5 with
  | none => exact gs_go f_244_775 rfl
  | some v => cases v <;> exact gs_go f_244_775 rfl
theorem f_244_776 : ft 244 776 = some (1316, .aload_n 2, []) := rfl
theorem s_244_776 {d : Nat} {σ : xS} {st : List Value} {Q : xR → xS → Prop} {l0 l1 l3 l4 l5 l6 l7 l8 : Option Value} {x : Nat} : G d 244 776 [l0, l1, some (.ref x), l3, l4, l5, l6, l7, l8] st σ Q ↔ G d 244 777 [l0, l1, some (.ref x), l3, l4, l5, l6, l7, l8] (.ref x :: st) σ Q := gs_go f_244_776 rfl
theorem f_244_777 : ft 244 777 = some (1317, .invokevirtual 91, [123, 1, 0, 1277]) := rfl
theorem s_244_777 {d : Nat} {t : yT} {st : List Value} {Q : xR → xS → Prop} {l0 l1 l2 l3 l4 l5 l6 l7 l8 : Option Value} {a0 : Nat} (ho : yisO 8 a0) : G (d + 1) 244 777 [l0, l1, l2, l3, l4, l5, l6, l7, l8] (.ref a0 :: st) (yemb t) Q ↔ xcat st ≤ 8 ∧ Cl d 123 [.ref a0] (yemb t) (Gk (d + 1) 244 777 [l0, l1, l2, l3, l4, l5, l6, l7, l8] st Q) := gs_call f_244_777 ((xinv_call (i := 777) (n := 1277) (ls := [l0, l1, l2, l3, l4, l5, l6, l7, l8]) (kind := 0) (σ := yemb t) (by decide)).trans (xcall_vi [.ref a0] rfl rfl (show (1 : Nat) ≤ 1 by decide) rfl ho))
theorem f_244_778 : ft 244 778 = some (1320, .iload 5, []) := rfl
theorem s_244_778 {d : Nat} {σ : xS} {st : List Value} {Q : xR → xS → Prop} {l0 l1 l2 l3 l4 l6 l7 l8 : Option Value} {x : Int32} : G d 244 778 [l0, l1, l2, l3, l4, some (.int x), l6, l7, l8] st σ Q ↔ G d 244 779 [l0, l1, l2, l3, l4, some (.int x), l6, l7, l8] (.int x :: st) σ Q := gs_go f_244_778 rfl
theorem f_244_779 : ft 244 779 = some (1322, .if_icmp .eq 5, [782]) := rfl
theorem s_244_779 {d : Nat} {σ : xS} {st : List Value} {Q : xR → xS → Prop} {l0 l1 l2 l3 l4 l5 l6 l7 l8 : Option Value} {x y : Int32} : G d 244 779 [l0, l1, l2, l3, l4, l5, l6, l7, l8] (.int y :: .int x :: st) σ Q ↔ if x = y then G d 244 782 [l0, l1, l2, l3, l4, l5, l6, l7, l8] st σ Q else G d 244 780 [l0, l1, l2, l3, l4, l5, l6, l7, l8] st σ Q := gs_if f_244_779 rfl
theorem f_244_780 : ft 244 780 = some (1325, .iconst 0, []) := rfl
theorem s_244_780 {d : Nat} {σ : xS} {st : List Value} {Q : xR → xS → Prop} {l0 l1 l2 l3 l4 l5 l6 l7 l8 : Option Value} : G d 244 780 [l0, l1, l2, l3, l4, l5, l6, l7, l8] st σ Q ↔ G d 244 781 [l0, l1, l2, l3, l4, l5, l6, l7, l8] (.int (0) :: st) σ Q := gs_go f_244_780 rfl
theorem f_244_781 : ft 244 781 = some (1326, .ireturn, []) := rfl
theorem s_244_781 {d : Nat} {σ : xS} {ls : xL} {Q : xR → xS → Prop} {x : Int32} : G d 244 781 ls [.int x] σ Q ↔ ybo x ∧ Q (.inl (some (.int x))) σ := gs_retb f_244_781 rfl
theorem f_244_782 : ft 244 782 = some (1327, .iload 5, []) := rfl
theorem s_244_782 {d : Nat} {σ : xS} {st : List Value} {Q : xR → xS → Prop} {l0 l1 l2 l3 l4 l6 l7 l8 : Option Value} {x : Int32} : G d 244 782 [l0, l1, l2, l3, l4, some (.int x), l6, l7, l8] st σ Q ↔ G d 244 783 [l0, l1, l2, l3, l4, some (.int x), l6, l7, l8] (.int x :: st) σ Q := gs_go f_244_782 rfl
theorem f_244_783 : ft 244 783 = some (1329, .ifCond .ne 15, [793]) := rfl
theorem s_244_783 {d : Nat} {σ : xS} {st : List Value} {Q : xR → xS → Prop} {l0 l1 l2 l3 l4 l5 l6 l7 l8 : Option Value} {x : Int32} : G d 244 783 [l0, l1, l2, l3, l4, l5, l6, l7, l8] (.int x :: st) σ Q ↔ if x ≠ 0 then G d 244 793 [l0, l1, l2, l3, l4, l5, l6, l7, l8] st σ Q else G d 244 784 [l0, l1, l2, l3, l4, l5, l6, l7, l8] st σ Q := gs_if f_244_783 rfl
theorem f_244_784 : ft 244 784 = some (1332, .aload_n 3, []) := rfl
theorem s_244_784 {d : Nat} {σ : xS} {st : List Value} {Q : xR → xS → Prop} {l0 l1 l2 l4 l5 l6 l7 l8 : Option Value} {x : Nat} : G d 244 784 [l0, l1, l2, some (.ref x), l4, l5, l6, l7, l8] st σ Q ↔ G d 244 785 [l0, l1, l2, some (.ref x), l4, l5, l6, l7, l8] (.ref x :: st) σ Q := gs_go f_244_784 rfl
theorem f_244_785 : ft 244 785 = some (1333, .iconst 0, []) := rfl
theorem s_244_785 {d : Nat} {σ : xS} {st : List Value} {Q : xR → xS → Prop} {l0 l1 l2 l3 l4 l5 l6 l7 l8 : Option Value} : G d 244 785 [l0, l1, l2, l3, l4, l5, l6, l7, l8] st σ Q ↔ G d 244 786 [l0, l1, l2, l3, l4, l5, l6, l7, l8] (.int (0) :: st) σ Q := gs_go f_244_785 rfl
theorem f_244_786 : ft 244 786 = some (1334, .laload, []) := rfl
theorem s_244_786 {d : Nat} {t : yT} {st : List Value} {Q : xR → xS → Prop} {l0 l1 l2 l3 l4 l5 l6 l7 l8 : Option Value} {a : Nat} {x : Int32} (ha : yLA a) : G d 244 786 [l0, l1, l2, l3, l4, l5, l6, l7, l8] (.int x :: .ref a :: st) (yemb t) Q ↔ yix x (yn a) ∧ G d 244 787 [l0, l1, l2, l3, l4, l5, l6, l7, l8] (.long (t.L a x.toNatClampNeg) :: st) (yemb t) Q := gs_lald f_244_786 ha
theorem f_244_787 : ft 244 787 = some (1335, .iload 6, []) := rfl
theorem s_244_787 {d : Nat} {σ : xS} {st : List Value} {Q : xR → xS → Prop} {l0 l1 l2 l3 l4 l5 l7 l8 : Option Value} {x : Int32} : G d 244 787 [l0, l1, l2, l3, l4, l5, some (.int x), l7, l8] st σ Q ↔ G d 244 788 [l0, l1, l2, l3, l4, l5, some (.int x), l7, l8] (.int x :: st) σ Q := gs_go f_244_787 rfl
theorem f_244_788 : ft 244 788 = some (1337, .i2l, []) := rfl
theorem s_244_788 {d : Nat} {σ : xS} {st : List Value} {Q : xR → xS → Prop} {l0 l1 l2 l3 l4 l5 l6 l7 l8 : Option Value} {x : Int32} : G d 244 788 [l0, l1, l2, l3, l4, l5, l6, l7, l8] (.int x :: st) σ Q ↔ G d 244 789 [l0, l1, l2, l3, l4, l5, l6, l7, l8] (.long x.toInt64 :: st) σ Q := gs_go f_244_788 rfl
theorem f_244_789 : ft 244 789 = some (1338, .lcmp, []) := rfl
theorem s_244_789 {d : Nat} {σ : xS} {st : List Value} {Q : xR → xS → Prop} {l0 l1 l2 l3 l4 l5 l6 l7 l8 : Option Value} {x y : Int64} : G d 244 789 [l0, l1, l2, l3, l4, l5, l6, l7, l8] (.long y :: .long x :: st) σ Q ↔ G d 244 790 [l0, l1, l2, l3, l4, l5, l6, l7, l8] (.int (lg_cmp x y) :: st) σ Q := gs_go f_244_789 rfl
theorem f_244_790 : ft 244 790 = some (1339, .ifCond .eq 5, [793]) := rfl
theorem s_244_790 {d : Nat} {σ : xS} {st : List Value} {Q : xR → xS → Prop} {l0 l1 l2 l3 l4 l5 l6 l7 l8 : Option Value} {x : Int32} : G d 244 790 [l0, l1, l2, l3, l4, l5, l6, l7, l8] (.int x :: st) σ Q ↔ if x = 0 then G d 244 793 [l0, l1, l2, l3, l4, l5, l6, l7, l8] st σ Q else G d 244 791 [l0, l1, l2, l3, l4, l5, l6, l7, l8] st σ Q := gs_if f_244_790 rfl
theorem f_244_791 : ft 244 791 = some (1342, .iconst 0, []) := rfl
theorem s_244_791 {d : Nat} {σ : xS} {st : List Value} {Q : xR → xS → Prop} {l0 l1 l2 l3 l4 l5 l6 l7 l8 : Option Value} : G d 244 791 [l0, l1, l2, l3, l4, l5, l6, l7, l8] st σ Q ↔ G d 244 792 [l0, l1, l2, l3, l4, l5, l6, l7, l8] (.int (0) :: st) σ Q := gs_go f_244_791 rfl
theorem f_244_792 : ft 244 792 = some (1343, .ireturn, []) := rfl
theorem s_244_792 {d : Nat} {σ : xS} {ls : xL} {Q : xR → xS → Prop} {x : Int32} : G d 244 792 ls [.int x] σ Q ↔ ybo x ∧ Q (.inl (some (.int x))) σ := gs_retb f_244_792 rfl
theorem f_244_793 : ft 244 793 = some (1344, .goto 142, [879]) := rfl
theorem s_244_793 {d : Nat} {σ : xS} {st : List Value} {Q : xR → xS → Prop} {l0 l1 l2 l3 l4 l5 l6 l7 l8 : Option Value} : G d 244 793 [l0, l1, l2, l3, l4, l5, l6, l7, l8] st σ Q ↔ G d 244 879 [l0, l1, l2, l3, l4, l5, l6, l7, l8] st σ Q := gs_go f_244_793 rfl
theorem f_244_794 : ft 244 794 = some (1347, .aload_n 1, []) := rfl
theorem s_244_794 {d : Nat} {σ : xS} {st : List Value} {Q : xR → xS → Prop} {l0 l2 l3 l4 l5 l6 l7 l8 : Option Value} {x : Nat} : G d 244 794 [l0, some (.ref x), l2, l3, l4, l5, l6, l7, l8] st σ Q ↔ G d 244 795 [l0, some (.ref x), l2, l3, l4, l5, l6, l7, l8] (.ref x :: st) σ Q := gs_go f_244_794 rfl
theorem f_244_795 : ft 244 795 = some (1348, .aload_n 0, []) := rfl
theorem s_244_795 {d : Nat} {σ : xS} {st : List Value} {Q : xR → xS → Prop} {l1 l2 l3 l4 l5 l6 l7 l8 : Option Value} {x : Nat} : G d 244 795 [some (.ref x), l1, l2, l3, l4, l5, l6, l7, l8] st σ Q ↔ G d 244 796 [some (.ref x), l1, l2, l3, l4, l5, l6, l7, l8] (.ref x :: st) σ Q := gs_go f_244_795 rfl
theorem f_244_796 : ft 244 796 = some (1349, .iload 4, []) := rfl
theorem s_244_796 {d : Nat} {σ : xS} {st : List Value} {Q : xR → xS → Prop} {l0 l1 l2 l3 l5 l6 l7 l8 : Option Value} {x : Int32} : G d 244 796 [l0, l1, l2, l3, some (.int x), l5, l6, l7, l8] st σ Q ↔ G d 244 797 [l0, l1, l2, l3, some (.int x), l5, l6, l7, l8] (.int x :: st) σ Q := gs_go f_244_796 rfl
theorem f_244_797 : ft 244 797 = some (1351, .iconst 1, []) := rfl
theorem s_244_797 {d : Nat} {σ : xS} {st : List Value} {Q : xR → xS → Prop} {l0 l1 l2 l3 l4 l5 l6 l7 l8 : Option Value} : G d 244 797 [l0, l1, l2, l3, l4, l5, l6, l7, l8] st σ Q ↔ G d 244 798 [l0, l1, l2, l3, l4, l5, l6, l7, l8] (.int (1) :: st) σ Q := gs_go f_244_797 rfl
theorem f_244_798 : ft 244 798 = some (1352, .iadd, []) := rfl
theorem s_244_798 {d : Nat} {σ : xS} {st : List Value} {Q : xR → xS → Prop} {l0 l1 l2 l3 l4 l5 l6 l7 l8 : Option Value} {x y : Int32} : G d 244 798 [l0, l1, l2, l3, l4, l5, l6, l7, l8] (.int y :: .int x :: st) σ Q ↔ G d 244 799 [l0, l1, l2, l3, l4, l5, l6, l7, l8] (.int (x + y) :: st) σ Q := gs_go f_244_798 rfl
theorem f_244_799 : ft 244 799 = some (1353, .iaload, []) := rfl
theorem s_244_799 {d : Nat} {t : yT} {st : List Value} {Q : xR → xS → Prop} {l0 l1 l2 l3 l4 l5 l6 l7 l8 : Option Value} {a : Nat} {x : Int32} (ha : yA 0 a) : G d 244 799 [l0, l1, l2, l3, l4, l5, l6, l7, l8] (.int x :: .ref a :: st) (yemb t) Q ↔ yix x (yn a) ∧ G d 244 800 [l0, l1, l2, l3, l4, l5, l6, l7, l8] (.int (t.A a x.toNatClampNeg) :: st) (yemb t) Q := gs_iald f_244_799 ha
theorem f_244_800 : ft 244 800 = some (1354, .aload_n 3, []) := rfl
theorem s_244_800 {d : Nat} {σ : xS} {st : List Value} {Q : xR → xS → Prop} {l0 l1 l2 l4 l5 l6 l7 l8 : Option Value} {x : Nat} : G d 244 800 [l0, l1, l2, some (.ref x), l4, l5, l6, l7, l8] st σ Q ↔ G d 244 801 [l0, l1, l2, some (.ref x), l4, l5, l6, l7, l8] (.ref x :: st) σ Q := gs_go f_244_800 rfl
theorem f_244_801 : ft 244 801 = some (1355, .invokestatic 161, [242, 3, 6, 1146]) := rfl
theorem s_244_801 {d : Nat} {σ : xS} {st : List Value} {Q : xR → xS → Prop} {l0 l1 l2 l3 l4 l5 l6 l7 l8 : Option Value} {a0 : Nat} {a1 : Int32} {a2 : Nat} : G (d + 1) 244 801 [l0, l1, l2, l3, l4, l5, l6, l7, l8] (.ref a2 :: .int a1 :: .ref a0 :: st) σ Q ↔ xcat st ≤ 8 ∧ Cl d 242 [.ref a0, .int a1, .ref a2] σ (Gk (d + 1) 244 801 [l0, l1, l2, l3, l4, l5, l6, l7, l8] st Q) := gs_call f_244_801 ((xinv_call (i := 801) (n := 1146) (ls := [l0, l1, l2, l3, l4, l5, l6, l7, l8]) (kind := 6) (σ := σ) (by decide)).trans (xcall_st [.ref a2, .int a1, .ref a0] rfl (by decide) (show (3 : Nat) ≤ 4 by decide)))
theorem f_244_802 : ft 244 802 = some (1358, .istore 5, []) := rfl
theorem s_244_802 {d : Nat} {σ : xS} {st : List Value} {Q : xR → xS → Prop} {l0 l1 l2 l3 l4 l5 l6 l7 l8 : Option Value} {x : Int32} : G d 244 802 [l0, l1, l2, l3, l4, l5, l6, l7, l8] (.int x :: st) σ Q ↔ G d 244 803 [l0, l1, l2, l3, ykl l4, some (.int x), l6, l7, l8] st σ Q := by
  cases l4 with
  | none => exact gs_go f_244_802 rfl
  | some v => cases v <;> exact gs_go f_244_802 rfl
theorem f_244_803 : ft 244 803 = some (1360, .aload_n 2, []) := rfl
theorem s_244_803 {d : Nat} {σ : xS} {st : List Value} {Q : xR → xS → Prop} {l0 l1 l3 l4 l5 l6 l7 l8 : Option Value} {x : Nat} : G d 244 803 [l0, l1, some (.ref x), l3, l4, l5, l6, l7, l8] st σ Q ↔ G d 244 804 [l0, l1, some (.ref x), l3, l4, l5, l6, l7, l8] (.ref x :: st) σ Q := gs_go f_244_803 rfl
theorem f_244_804 : ft 244 804 = some (1361, .aload_n 0, []) := rfl
theorem s_244_804 {d : Nat} {σ : xS} {st : List Value} {Q : xR → xS → Prop} {l1 l2 l3 l4 l5 l6 l7 l8 : Option Value} {x : Nat} : G d 244 804 [some (.ref x), l1, l2, l3, l4, l5, l6, l7, l8] st σ Q ↔ G d 244 805 [some (.ref x), l1, l2, l3, l4, l5, l6, l7, l8] (.ref x :: st) σ Q := gs_go f_244_804 rfl
theorem f_244_805 : ft 244 805 = some (1362, .iload 4, []) := rfl
theorem s_244_805 {d : Nat} {σ : xS} {st : List Value} {Q : xR → xS → Prop} {l0 l1 l2 l3 l5 l6 l7 l8 : Option Value} {x : Int32} : G d 244 805 [l0, l1, l2, l3, some (.int x), l5, l6, l7, l8] st σ Q ↔ G d 244 806 [l0, l1, l2, l3, some (.int x), l5, l6, l7, l8] (.int x :: st) σ Q := gs_go f_244_805 rfl
theorem f_244_806 : ft 244 806 = some (1364, .iconst 1, []) := rfl
theorem s_244_806 {d : Nat} {σ : xS} {st : List Value} {Q : xR → xS → Prop} {l0 l1 l2 l3 l4 l5 l6 l7 l8 : Option Value} : G d 244 806 [l0, l1, l2, l3, l4, l5, l6, l7, l8] st σ Q ↔ G d 244 807 [l0, l1, l2, l3, l4, l5, l6, l7, l8] (.int (1) :: st) σ Q := gs_go f_244_806 rfl
theorem f_244_807 : ft 244 807 = some (1365, .iadd, []) := rfl
theorem s_244_807 {d : Nat} {σ : xS} {st : List Value} {Q : xR → xS → Prop} {l0 l1 l2 l3 l4 l5 l6 l7 l8 : Option Value} {x y : Int32} : G d 244 807 [l0, l1, l2, l3, l4, l5, l6, l7, l8] (.int y :: .int x :: st) σ Q ↔ G d 244 808 [l0, l1, l2, l3, l4, l5, l6, l7, l8] (.int (x + y) :: st) σ Q := gs_go f_244_807 rfl
theorem f_244_808 : ft 244 808 = some (1366, .iaload, []) := rfl
theorem s_244_808 {d : Nat} {t : yT} {st : List Value} {Q : xR → xS → Prop} {l0 l1 l2 l3 l4 l5 l6 l7 l8 : Option Value} {a : Nat} {x : Int32} (ha : yA 0 a) : G d 244 808 [l0, l1, l2, l3, l4, l5, l6, l7, l8] (.int x :: .ref a :: st) (yemb t) Q ↔ yix x (yn a) ∧ G d 244 809 [l0, l1, l2, l3, l4, l5, l6, l7, l8] (.int (t.A a x.toNatClampNeg) :: st) (yemb t) Q := gs_iald f_244_808 ha
theorem f_244_809 : ft 244 809 = some (1367, .invokevirtual 163, [212, 2, 0, 1632]) := rfl
theorem s_244_809 {d : Nat} {t : yT} {st : List Value} {Q : xR → xS → Prop} {l0 l1 l2 l3 l4 l5 l6 l7 l8 : Option Value} {a0 : Nat} {a1 : Int32} (ho : yisO 8 a0) : G (d + 1) 244 809 [l0, l1, l2, l3, l4, l5, l6, l7, l8] (.int a1 :: .ref a0 :: st) (yemb t) Q ↔ xcat st ≤ 8 ∧ Cl d 212 [.ref a0, .int a1] (yemb t) (Gk (d + 1) 244 809 [l0, l1, l2, l3, l4, l5, l6, l7, l8] st Q) := gs_call f_244_809 ((xinv_call (i := 809) (n := 1632) (ls := [l0, l1, l2, l3, l4, l5, l6, l7, l8]) (kind := 0) (σ := yemb t) (by decide)).trans (xcall_vi [.int a1, .ref a0] rfl rfl (show (2 : Nat) ≤ 2 by decide) rfl ho))
theorem f_244_810 : ft 244 810 = some (1370, .istore 6, []) := rfl
theorem s_244_810 {d : Nat} {σ : xS} {st : List Value} {Q : xR → xS → Prop} {l0 l1 l2 l3 l4 l5 l6 l7 l8 : Option Value} {x : Int32} : G d 244 810 [l0, l1, l2, l3, l4, l5, l6, l7, l8] (.int x :: st) σ Q ↔ G d 244 811 [l0, l1, l2, l3, l4, ykl l5, some (.int x), l7, l8] st σ Q := by
  cases l5 with
  | none => exact gs_go f_244_810 rfl
  | some v => cases v <;> exact gs_go f_244_810 rfl
theorem f_244_811 : ft 244 811 = some (1372, .aload_n 2, []) := rfl
theorem s_244_811 {d : Nat} {σ : xS} {st : List Value} {Q : xR → xS → Prop} {l0 l1 l3 l4 l5 l6 l7 l8 : Option Value} {x : Nat} : G d 244 811 [l0, l1, some (.ref x), l3, l4, l5, l6, l7, l8] st σ Q ↔ G d 244 812 [l0, l1, some (.ref x), l3, l4, l5, l6, l7, l8] (.ref x :: st) σ Q := gs_go f_244_811 rfl
theorem f_244_812 : ft 244 812 = some (1373, .invokevirtual 91, [123, 1, 0, 1277]) := rfl
theorem s_244_812 {d : Nat} {t : yT} {st : List Value} {Q : xR → xS → Prop} {l0 l1 l2 l3 l4 l5 l6 l7 l8 : Option Value} {a0 : Nat} (ho : yisO 8 a0) : G (d + 1) 244 812 [l0, l1, l2, l3, l4, l5, l6, l7, l8] (.ref a0 :: st) (yemb t) Q ↔ xcat st ≤ 8 ∧ Cl d 123 [.ref a0] (yemb t) (Gk (d + 1) 244 812 [l0, l1, l2, l3, l4, l5, l6, l7, l8] st Q) := gs_call f_244_812 ((xinv_call (i := 812) (n := 1277) (ls := [l0, l1, l2, l3, l4, l5, l6, l7, l8]) (kind := 0) (σ := yemb t) (by decide)).trans (xcall_vi [.ref a0] rfl rfl (show (1 : Nat) ≤ 1 by decide) rfl ho))
theorem f_244_813 : ft 244 813 = some (1376, .iload 5, []) := rfl
theorem s_244_813 {d : Nat} {σ : xS} {st : List Value} {Q : xR → xS → Prop} {l0 l1 l2 l3 l4 l6 l7 l8 : Option Value} {x : Int32} : G d 244 813 [l0, l1, l2, l3, l4, some (.int x), l6, l7, l8] st σ Q ↔ G d 244 814 [l0, l1, l2, l3, l4, some (.int x), l6, l7, l8] (.int x :: st) σ Q := gs_go f_244_813 rfl
theorem f_244_814 : ft 244 814 = some (1378, .if_icmp .eq 5, [817]) := rfl
theorem s_244_814 {d : Nat} {σ : xS} {st : List Value} {Q : xR → xS → Prop} {l0 l1 l2 l3 l4 l5 l6 l7 l8 : Option Value} {x y : Int32} : G d 244 814 [l0, l1, l2, l3, l4, l5, l6, l7, l8] (.int y :: .int x :: st) σ Q ↔ if x = y then G d 244 817 [l0, l1, l2, l3, l4, l5, l6, l7, l8] st σ Q else G d 244 815 [l0, l1, l2, l3, l4, l5, l6, l7, l8] st σ Q := gs_if f_244_814 rfl
theorem f_244_815 : ft 244 815 = some (1381, .iconst 0, []) := rfl
theorem s_244_815 {d : Nat} {σ : xS} {st : List Value} {Q : xR → xS → Prop} {l0 l1 l2 l3 l4 l5 l6 l7 l8 : Option Value} : G d 244 815 [l0, l1, l2, l3, l4, l5, l6, l7, l8] st σ Q ↔ G d 244 816 [l0, l1, l2, l3, l4, l5, l6, l7, l8] (.int (0) :: st) σ Q := gs_go f_244_815 rfl
theorem f_244_816 : ft 244 816 = some (1382, .ireturn, []) := rfl
theorem s_244_816 {d : Nat} {σ : xS} {ls : xL} {Q : xR → xS → Prop} {x : Int32} : G d 244 816 ls [.int x] σ Q ↔ ybo x ∧ Q (.inl (some (.int x))) σ := gs_retb f_244_816 rfl
theorem f_244_817 : ft 244 817 = some (1383, .iload 5, []) := rfl
theorem s_244_817 {d : Nat} {σ : xS} {st : List Value} {Q : xR → xS → Prop} {l0 l1 l2 l3 l4 l6 l7 l8 : Option Value} {x : Int32} : G d 244 817 [l0, l1, l2, l3, l4, some (.int x), l6, l7, l8] st σ Q ↔ G d 244 818 [l0, l1, l2, l3, l4, some (.int x), l6, l7, l8] (.int x :: st) σ Q := gs_go f_244_817 rfl
theorem f_244_818 : ft 244 818 = some (1385, .ifCond .ne 15, [828]) := rfl
theorem s_244_818 {d : Nat} {σ : xS} {st : List Value} {Q : xR → xS → Prop} {l0 l1 l2 l3 l4 l5 l6 l7 l8 : Option Value} {x : Int32} : G d 244 818 [l0, l1, l2, l3, l4, l5, l6, l7, l8] (.int x :: st) σ Q ↔ if x ≠ 0 then G d 244 828 [l0, l1, l2, l3, l4, l5, l6, l7, l8] st σ Q else G d 244 819 [l0, l1, l2, l3, l4, l5, l6, l7, l8] st σ Q := gs_if f_244_818 rfl
theorem f_244_819 : ft 244 819 = some (1388, .aload_n 3, []) := rfl
theorem s_244_819 {d : Nat} {σ : xS} {st : List Value} {Q : xR → xS → Prop} {l0 l1 l2 l4 l5 l6 l7 l8 : Option Value} {x : Nat} : G d 244 819 [l0, l1, l2, some (.ref x), l4, l5, l6, l7, l8] st σ Q ↔ G d 244 820 [l0, l1, l2, some (.ref x), l4, l5, l6, l7, l8] (.ref x :: st) σ Q := gs_go f_244_819 rfl
theorem f_244_820 : ft 244 820 = some (1389, .iconst 0, []) := rfl
theorem s_244_820 {d : Nat} {σ : xS} {st : List Value} {Q : xR → xS → Prop} {l0 l1 l2 l3 l4 l5 l6 l7 l8 : Option Value} : G d 244 820 [l0, l1, l2, l3, l4, l5, l6, l7, l8] st σ Q ↔ G d 244 821 [l0, l1, l2, l3, l4, l5, l6, l7, l8] (.int (0) :: st) σ Q := gs_go f_244_820 rfl
theorem f_244_821 : ft 244 821 = some (1390, .laload, []) := rfl
theorem s_244_821 {d : Nat} {t : yT} {st : List Value} {Q : xR → xS → Prop} {l0 l1 l2 l3 l4 l5 l6 l7 l8 : Option Value} {a : Nat} {x : Int32} (ha : yLA a) : G d 244 821 [l0, l1, l2, l3, l4, l5, l6, l7, l8] (.int x :: .ref a :: st) (yemb t) Q ↔ yix x (yn a) ∧ G d 244 822 [l0, l1, l2, l3, l4, l5, l6, l7, l8] (.long (t.L a x.toNatClampNeg) :: st) (yemb t) Q := gs_lald f_244_821 ha
theorem f_244_822 : ft 244 822 = some (1391, .iload 6, []) := rfl
theorem s_244_822 {d : Nat} {σ : xS} {st : List Value} {Q : xR → xS → Prop} {l0 l1 l2 l3 l4 l5 l7 l8 : Option Value} {x : Int32} : G d 244 822 [l0, l1, l2, l3, l4, l5, some (.int x), l7, l8] st σ Q ↔ G d 244 823 [l0, l1, l2, l3, l4, l5, some (.int x), l7, l8] (.int x :: st) σ Q := gs_go f_244_822 rfl
theorem f_244_823 : ft 244 823 = some (1393, .i2l, []) := rfl
theorem s_244_823 {d : Nat} {σ : xS} {st : List Value} {Q : xR → xS → Prop} {l0 l1 l2 l3 l4 l5 l6 l7 l8 : Option Value} {x : Int32} : G d 244 823 [l0, l1, l2, l3, l4, l5, l6, l7, l8] (.int x :: st) σ Q ↔ G d 244 824 [l0, l1, l2, l3, l4, l5, l6, l7, l8] (.long x.toInt64 :: st) σ Q := gs_go f_244_823 rfl
theorem f_244_824 : ft 244 824 = some (1394, .lcmp, []) := rfl
theorem s_244_824 {d : Nat} {σ : xS} {st : List Value} {Q : xR → xS → Prop} {l0 l1 l2 l3 l4 l5 l6 l7 l8 : Option Value} {x y : Int64} : G d 244 824 [l0, l1, l2, l3, l4, l5, l6, l7, l8] (.long y :: .long x :: st) σ Q ↔ G d 244 825 [l0, l1, l2, l3, l4, l5, l6, l7, l8] (.int (lg_cmp x y) :: st) σ Q := gs_go f_244_824 rfl
theorem f_244_825 : ft 244 825 = some (1395, .ifCond .eq 5, [828]) := rfl
theorem s_244_825 {d : Nat} {σ : xS} {st : List Value} {Q : xR → xS → Prop} {l0 l1 l2 l3 l4 l5 l6 l7 l8 : Option Value} {x : Int32} : G d 244 825 [l0, l1, l2, l3, l4, l5, l6, l7, l8] (.int x :: st) σ Q ↔ if x = 0 then G d 244 828 [l0, l1, l2, l3, l4, l5, l6, l7, l8] st σ Q else G d 244 826 [l0, l1, l2, l3, l4, l5, l6, l7, l8] st σ Q := gs_if f_244_825 rfl
theorem f_244_826 : ft 244 826 = some (1398, .iconst 0, []) := rfl
theorem s_244_826 {d : Nat} {σ : xS} {st : List Value} {Q : xR → xS → Prop} {l0 l1 l2 l3 l4 l5 l6 l7 l8 : Option Value} : G d 244 826 [l0, l1, l2, l3, l4, l5, l6, l7, l8] st σ Q ↔ G d 244 827 [l0, l1, l2, l3, l4, l5, l6, l7, l8] (.int (0) :: st) σ Q := gs_go f_244_826 rfl
theorem f_244_827 : ft 244 827 = some (1399, .ireturn, []) := rfl
theorem s_244_827 {d : Nat} {σ : xS} {ls : xL} {Q : xR → xS → Prop} {x : Int32} : G d 244 827 ls [.int x] σ Q ↔ ybo x ∧ Q (.inl (some (.int x))) σ := gs_retb f_244_827 rfl
theorem f_244_828 : ft 244 828 = some (1400, .goto 86, [879]) := rfl
theorem s_244_828 {d : Nat} {σ : xS} {st : List Value} {Q : xR → xS → Prop} {l0 l1 l2 l3 l4 l5 l6 l7 l8 : Option Value} : G d 244 828 [l0, l1, l2, l3, l4, l5, l6, l7, l8] st σ Q ↔ G d 244 879 [l0, l1, l2, l3, l4, l5, l6, l7, l8] st σ Q := gs_go f_244_828 rfl
theorem f_244_829 : ft 244 829 = some (1403, .aload_n 1, []) := rfl
theorem s_244_829 {d : Nat} {σ : xS} {st : List Value} {Q : xR → xS → Prop} {l0 l2 l3 l4 l5 l6 l7 l8 : Option Value} {x : Nat} : G d 244 829 [l0, some (.ref x), l2, l3, l4, l5, l6, l7, l8] st σ Q ↔ G d 244 830 [l0, some (.ref x), l2, l3, l4, l5, l6, l7, l8] (.ref x :: st) σ Q := gs_go f_244_829 rfl
theorem f_244_830 : ft 244 830 = some (1404, .aload_n 0, []) := rfl
theorem s_244_830 {d : Nat} {σ : xS} {st : List Value} {Q : xR → xS → Prop} {l1 l2 l3 l4 l5 l6 l7 l8 : Option Value} {x : Nat} : G d 244 830 [some (.ref x), l1, l2, l3, l4, l5, l6, l7, l8] st σ Q ↔ G d 244 831 [some (.ref x), l1, l2, l3, l4, l5, l6, l7, l8] (.ref x :: st) σ Q := gs_go f_244_830 rfl
theorem f_244_831 : ft 244 831 = some (1405, .iload 4, []) := rfl
theorem s_244_831 {d : Nat} {σ : xS} {st : List Value} {Q : xR → xS → Prop} {l0 l1 l2 l3 l5 l6 l7 l8 : Option Value} {x : Int32} : G d 244 831 [l0, l1, l2, l3, some (.int x), l5, l6, l7, l8] st σ Q ↔ G d 244 832 [l0, l1, l2, l3, some (.int x), l5, l6, l7, l8] (.int x :: st) σ Q := gs_go f_244_831 rfl
theorem f_244_832 : ft 244 832 = some (1407, .iconst 1, []) := rfl
theorem s_244_832 {d : Nat} {σ : xS} {st : List Value} {Q : xR → xS → Prop} {l0 l1 l2 l3 l4 l5 l6 l7 l8 : Option Value} : G d 244 832 [l0, l1, l2, l3, l4, l5, l6, l7, l8] st σ Q ↔ G d 244 833 [l0, l1, l2, l3, l4, l5, l6, l7, l8] (.int (1) :: st) σ Q := gs_go f_244_832 rfl
theorem f_244_833 : ft 244 833 = some (1408, .iadd, []) := rfl
theorem s_244_833 {d : Nat} {σ : xS} {st : List Value} {Q : xR → xS → Prop} {l0 l1 l2 l3 l4 l5 l6 l7 l8 : Option Value} {x y : Int32} : G d 244 833 [l0, l1, l2, l3, l4, l5, l6, l7, l8] (.int y :: .int x :: st) σ Q ↔ G d 244 834 [l0, l1, l2, l3, l4, l5, l6, l7, l8] (.int (x + y) :: st) σ Q := gs_go f_244_833 rfl
theorem f_244_834 : ft 244 834 = some (1409, .iaload, []) := rfl
theorem s_244_834 {d : Nat} {t : yT} {st : List Value} {Q : xR → xS → Prop} {l0 l1 l2 l3 l4 l5 l6 l7 l8 : Option Value} {a : Nat} {x : Int32} (ha : yA 0 a) : G d 244 834 [l0, l1, l2, l3, l4, l5, l6, l7, l8] (.int x :: .ref a :: st) (yemb t) Q ↔ yix x (yn a) ∧ G d 244 835 [l0, l1, l2, l3, l4, l5, l6, l7, l8] (.int (t.A a x.toNatClampNeg) :: st) (yemb t) Q := gs_iald f_244_834 ha
theorem f_244_835 : ft 244 835 = some (1410, .aload_n 3, []) := rfl
theorem s_244_835 {d : Nat} {σ : xS} {st : List Value} {Q : xR → xS → Prop} {l0 l1 l2 l4 l5 l6 l7 l8 : Option Value} {x : Nat} : G d 244 835 [l0, l1, l2, some (.ref x), l4, l5, l6, l7, l8] st σ Q ↔ G d 244 836 [l0, l1, l2, some (.ref x), l4, l5, l6, l7, l8] (.ref x :: st) σ Q := gs_go f_244_835 rfl
theorem f_244_836 : ft 244 836 = some (1411, .invokestatic 164, [243, 3, 6, 1153]) := rfl
theorem s_244_836 {d : Nat} {σ : xS} {st : List Value} {Q : xR → xS → Prop} {l0 l1 l2 l3 l4 l5 l6 l7 l8 : Option Value} {a0 : Nat} {a1 : Int32} {a2 : Nat} : G (d + 1) 244 836 [l0, l1, l2, l3, l4, l5, l6, l7, l8] (.ref a2 :: .int a1 :: .ref a0 :: st) σ Q ↔ xcat st ≤ 8 ∧ Cl d 243 [.ref a0, .int a1, .ref a2] σ (Gk (d + 1) 244 836 [l0, l1, l2, l3, l4, l5, l6, l7, l8] st Q) := gs_call f_244_836 ((xinv_call (i := 836) (n := 1153) (ls := [l0, l1, l2, l3, l4, l5, l6, l7, l8]) (kind := 6) (σ := σ) (by decide)).trans (xcall_st [.ref a2, .int a1, .ref a0] rfl (by decide) (show (3 : Nat) ≤ 4 by decide)))
theorem f_244_837 : ft 244 837 = some (1414, .istore 5, []) := rfl
theorem s_244_837 {d : Nat} {σ : xS} {st : List Value} {Q : xR → xS → Prop} {l0 l1 l2 l3 l4 l5 l6 l7 l8 : Option Value} {x : Int32} : G d 244 837 [l0, l1, l2, l3, l4, l5, l6, l7, l8] (.int x :: st) σ Q ↔ G d 244 838 [l0, l1, l2, l3, ykl l4, some (.int x), l6, l7, l8] st σ Q := by
  cases l4 with
  | none => exact gs_go f_244_837 rfl
  | some v => cases v <;> exact gs_go f_244_837 rfl
theorem f_244_838 : ft 244 838 = some (1416, .aload_n 2, []) := rfl
theorem s_244_838 {d : Nat} {σ : xS} {st : List Value} {Q : xR → xS → Prop} {l0 l1 l3 l4 l5 l6 l7 l8 : Option Value} {x : Nat} : G d 244 838 [l0, l1, some (.ref x), l3, l4, l5, l6, l7, l8] st σ Q ↔ G d 244 839 [l0, l1, some (.ref x), l3, l4, l5, l6, l7, l8] (.ref x :: st) σ Q := gs_go f_244_838 rfl
theorem f_244_839 : ft 244 839 = some (1417, .aload_n 0, []) := rfl
theorem s_244_839 {d : Nat} {σ : xS} {st : List Value} {Q : xR → xS → Prop} {l1 l2 l3 l4 l5 l6 l7 l8 : Option Value} {x : Nat} : G d 244 839 [some (.ref x), l1, l2, l3, l4, l5, l6, l7, l8] st σ Q ↔ G d 244 840 [some (.ref x), l1, l2, l3, l4, l5, l6, l7, l8] (.ref x :: st) σ Q := gs_go f_244_839 rfl
theorem f_244_840 : ft 244 840 = some (1418, .iload 4, []) := rfl
theorem s_244_840 {d : Nat} {σ : xS} {st : List Value} {Q : xR → xS → Prop} {l0 l1 l2 l3 l5 l6 l7 l8 : Option Value} {x : Int32} : G d 244 840 [l0, l1, l2, l3, some (.int x), l5, l6, l7, l8] st σ Q ↔ G d 244 841 [l0, l1, l2, l3, some (.int x), l5, l6, l7, l8] (.int x :: st) σ Q := gs_go f_244_840 rfl
theorem f_244_841 : ft 244 841 = some (1420, .iconst 1, []) := rfl
theorem s_244_841 {d : Nat} {σ : xS} {st : List Value} {Q : xR → xS → Prop} {l0 l1 l2 l3 l4 l5 l6 l7 l8 : Option Value} : G d 244 841 [l0, l1, l2, l3, l4, l5, l6, l7, l8] st σ Q ↔ G d 244 842 [l0, l1, l2, l3, l4, l5, l6, l7, l8] (.int (1) :: st) σ Q := gs_go f_244_841 rfl
theorem f_244_842 : ft 244 842 = some (1421, .iadd, []) := rfl
theorem s_244_842 {d : Nat} {σ : xS} {st : List Value} {Q : xR → xS → Prop} {l0 l1 l2 l3 l4 l5 l6 l7 l8 : Option Value} {x y : Int32} : G d 244 842 [l0, l1, l2, l3, l4, l5, l6, l7, l8] (.int y :: .int x :: st) σ Q ↔ G d 244 843 [l0, l1, l2, l3, l4, l5, l6, l7, l8] (.int (x + y) :: st) σ Q := gs_go f_244_842 rfl
theorem f_244_843 : ft 244 843 = some (1422, .iaload, []) := rfl
theorem s_244_843 {d : Nat} {t : yT} {st : List Value} {Q : xR → xS → Prop} {l0 l1 l2 l3 l4 l5 l6 l7 l8 : Option Value} {a : Nat} {x : Int32} (ha : yA 0 a) : G d 244 843 [l0, l1, l2, l3, l4, l5, l6, l7, l8] (.int x :: .ref a :: st) (yemb t) Q ↔ yix x (yn a) ∧ G d 244 844 [l0, l1, l2, l3, l4, l5, l6, l7, l8] (.int (t.A a x.toNatClampNeg) :: st) (yemb t) Q := gs_iald f_244_843 ha
theorem f_244_844 : ft 244 844 = some (1423, .invokevirtual 166, [213, 2, 0, 1640]) := rfl
theorem s_244_844 {d : Nat} {t : yT} {st : List Value} {Q : xR → xS → Prop} {l0 l1 l2 l3 l4 l5 l6 l7 l8 : Option Value} {a0 : Nat} {a1 : Int32} (ho : yisO 8 a0) : G (d + 1) 244 844 [l0, l1, l2, l3, l4, l5, l6, l7, l8] (.int a1 :: .ref a0 :: st) (yemb t) Q ↔ xcat st ≤ 8 ∧ Cl d 213 [.ref a0, .int a1] (yemb t) (Gk (d + 1) 244 844 [l0, l1, l2, l3, l4, l5, l6, l7, l8] st Q) := gs_call f_244_844 ((xinv_call (i := 844) (n := 1640) (ls := [l0, l1, l2, l3, l4, l5, l6, l7, l8]) (kind := 0) (σ := yemb t) (by decide)).trans (xcall_vi [.int a1, .ref a0] rfl rfl (show (2 : Nat) ≤ 2 by decide) rfl ho))
theorem f_244_845 : ft 244 845 = some (1426, .istore 6, []) := rfl
theorem s_244_845 {d : Nat} {σ : xS} {st : List Value} {Q : xR → xS → Prop} {l0 l1 l2 l3 l4 l5 l6 l7 l8 : Option Value} {x : Int32} : G d 244 845 [l0, l1, l2, l3, l4, l5, l6, l7, l8] (.int x :: st) σ Q ↔ G d 244 846 [l0, l1, l2, l3, l4, ykl l5, some (.int x), l7, l8] st σ Q := by
  cases l5 with
  | none => exact gs_go f_244_845 rfl
  | some v => cases v <;> exact gs_go f_244_845 rfl
theorem f_244_846 : ft 244 846 = some (1428, .aload_n 2, []) := rfl
theorem s_244_846 {d : Nat} {σ : xS} {st : List Value} {Q : xR → xS → Prop} {l0 l1 l3 l4 l5 l6 l7 l8 : Option Value} {x : Nat} : G d 244 846 [l0, l1, some (.ref x), l3, l4, l5, l6, l7, l8] st σ Q ↔ G d 244 847 [l0, l1, some (.ref x), l3, l4, l5, l6, l7, l8] (.ref x :: st) σ Q := gs_go f_244_846 rfl
theorem f_244_847 : ft 244 847 = some (1429, .invokevirtual 91, [123, 1, 0, 1277]) := rfl
theorem s_244_847 {d : Nat} {t : yT} {st : List Value} {Q : xR → xS → Prop} {l0 l1 l2 l3 l4 l5 l6 l7 l8 : Option Value} {a0 : Nat} (ho : yisO 8 a0) : G (d + 1) 244 847 [l0, l1, l2, l3, l4, l5, l6, l7, l8] (.ref a0 :: st) (yemb t) Q ↔ xcat st ≤ 8 ∧ Cl d 123 [.ref a0] (yemb t) (Gk (d + 1) 244 847 [l0, l1, l2, l3, l4, l5, l6, l7, l8] st Q) := gs_call f_244_847 ((xinv_call (i := 847) (n := 1277) (ls := [l0, l1, l2, l3, l4, l5, l6, l7, l8]) (kind := 0) (σ := yemb t) (by decide)).trans (xcall_vi [.ref a0] rfl rfl (show (1 : Nat) ≤ 1 by decide) rfl ho))
theorem f_244_848 : ft 244 848 = some (1432, .iload 5, []) := rfl
theorem s_244_848 {d : Nat} {σ : xS} {st : List Value} {Q : xR → xS → Prop} {l0 l1 l2 l3 l4 l6 l7 l8 : Option Value} {x : Int32} : G d 244 848 [l0, l1, l2, l3, l4, some (.int x), l6, l7, l8] st σ Q ↔ G d 244 849 [l0, l1, l2, l3, l4, some (.int x), l6, l7, l8] (.int x :: st) σ Q := gs_go f_244_848 rfl
theorem f_244_849 : ft 244 849 = some (1434, .if_icmp .eq 5, [852]) := rfl
theorem s_244_849 {d : Nat} {σ : xS} {st : List Value} {Q : xR → xS → Prop} {l0 l1 l2 l3 l4 l5 l6 l7 l8 : Option Value} {x y : Int32} : G d 244 849 [l0, l1, l2, l3, l4, l5, l6, l7, l8] (.int y :: .int x :: st) σ Q ↔ if x = y then G d 244 852 [l0, l1, l2, l3, l4, l5, l6, l7, l8] st σ Q else G d 244 850 [l0, l1, l2, l3, l4, l5, l6, l7, l8] st σ Q := gs_if f_244_849 rfl
theorem f_244_850 : ft 244 850 = some (1437, .iconst 0, []) := rfl
theorem s_244_850 {d : Nat} {σ : xS} {st : List Value} {Q : xR → xS → Prop} {l0 l1 l2 l3 l4 l5 l6 l7 l8 : Option Value} : G d 244 850 [l0, l1, l2, l3, l4, l5, l6, l7, l8] st σ Q ↔ G d 244 851 [l0, l1, l2, l3, l4, l5, l6, l7, l8] (.int (0) :: st) σ Q := gs_go f_244_850 rfl
theorem f_244_851 : ft 244 851 = some (1438, .ireturn, []) := rfl
theorem s_244_851 {d : Nat} {σ : xS} {ls : xL} {Q : xR → xS → Prop} {x : Int32} : G d 244 851 ls [.int x] σ Q ↔ ybo x ∧ Q (.inl (some (.int x))) σ := gs_retb f_244_851 rfl
theorem f_244_852 : ft 244 852 = some (1439, .iload 5, []) := rfl
theorem s_244_852 {d : Nat} {σ : xS} {st : List Value} {Q : xR → xS → Prop} {l0 l1 l2 l3 l4 l6 l7 l8 : Option Value} {x : Int32} : G d 244 852 [l0, l1, l2, l3, l4, some (.int x), l6, l7, l8] st σ Q ↔ G d 244 853 [l0, l1, l2, l3, l4, some (.int x), l6, l7, l8] (.int x :: st) σ Q := gs_go f_244_852 rfl
theorem f_244_853 : ft 244 853 = some (1441, .ifCond .ne 15, [863]) := rfl
theorem s_244_853 {d : Nat} {σ : xS} {st : List Value} {Q : xR → xS → Prop} {l0 l1 l2 l3 l4 l5 l6 l7 l8 : Option Value} {x : Int32} : G d 244 853 [l0, l1, l2, l3, l4, l5, l6, l7, l8] (.int x :: st) σ Q ↔ if x ≠ 0 then G d 244 863 [l0, l1, l2, l3, l4, l5, l6, l7, l8] st σ Q else G d 244 854 [l0, l1, l2, l3, l4, l5, l6, l7, l8] st σ Q := gs_if f_244_853 rfl
theorem f_244_854 : ft 244 854 = some (1444, .aload_n 3, []) := rfl
theorem s_244_854 {d : Nat} {σ : xS} {st : List Value} {Q : xR → xS → Prop} {l0 l1 l2 l4 l5 l6 l7 l8 : Option Value} {x : Nat} : G d 244 854 [l0, l1, l2, some (.ref x), l4, l5, l6, l7, l8] st σ Q ↔ G d 244 855 [l0, l1, l2, some (.ref x), l4, l5, l6, l7, l8] (.ref x :: st) σ Q := gs_go f_244_854 rfl
theorem f_244_855 : ft 244 855 = some (1445, .iconst 0, []) := rfl
theorem s_244_855 {d : Nat} {σ : xS} {st : List Value} {Q : xR → xS → Prop} {l0 l1 l2 l3 l4 l5 l6 l7 l8 : Option Value} : G d 244 855 [l0, l1, l2, l3, l4, l5, l6, l7, l8] st σ Q ↔ G d 244 856 [l0, l1, l2, l3, l4, l5, l6, l7, l8] (.int (0) :: st) σ Q := gs_go f_244_855 rfl
theorem f_244_856 : ft 244 856 = some (1446, .laload, []) := rfl
theorem s_244_856 {d : Nat} {t : yT} {st : List Value} {Q : xR → xS → Prop} {l0 l1 l2 l3 l4 l5 l6 l7 l8 : Option Value} {a : Nat} {x : Int32} (ha : yLA a) : G d 244 856 [l0, l1, l2, l3, l4, l5, l6, l7, l8] (.int x :: .ref a :: st) (yemb t) Q ↔ yix x (yn a) ∧ G d 244 857 [l0, l1, l2, l3, l4, l5, l6, l7, l8] (.long (t.L a x.toNatClampNeg) :: st) (yemb t) Q := gs_lald f_244_856 ha
theorem f_244_857 : ft 244 857 = some (1447, .iload 6, []) := rfl
theorem s_244_857 {d : Nat} {σ : xS} {st : List Value} {Q : xR → xS → Prop} {l0 l1 l2 l3 l4 l5 l7 l8 : Option Value} {x : Int32} : G d 244 857 [l0, l1, l2, l3, l4, l5, some (.int x), l7, l8] st σ Q ↔ G d 244 858 [l0, l1, l2, l3, l4, l5, some (.int x), l7, l8] (.int x :: st) σ Q := gs_go f_244_857 rfl
theorem f_244_858 : ft 244 858 = some (1449, .i2l, []) := rfl
theorem s_244_858 {d : Nat} {σ : xS} {st : List Value} {Q : xR → xS → Prop} {l0 l1 l2 l3 l4 l5 l6 l7 l8 : Option Value} {x : Int32} : G d 244 858 [l0, l1, l2, l3, l4, l5, l6, l7, l8] (.int x :: st) σ Q ↔ G d 244 859 [l0, l1, l2, l3, l4, l5, l6, l7, l8] (.long x.toInt64 :: st) σ Q := gs_go f_244_858 rfl
theorem f_244_859 : ft 244 859 = some (1450, .lcmp, []) := rfl
theorem s_244_859 {d : Nat} {σ : xS} {st : List Value} {Q : xR → xS → Prop} {l0 l1 l2 l3 l4 l5 l6 l7 l8 : Option Value} {x y : Int64} : G d 244 859 [l0, l1, l2, l3, l4, l5, l6, l7, l8] (.long y :: .long x :: st) σ Q ↔ G d 244 860 [l0, l1, l2, l3, l4, l5, l6, l7, l8] (.int (lg_cmp x y) :: st) σ Q := gs_go f_244_859 rfl
theorem f_244_860 : ft 244 860 = some (1451, .ifCond .eq 5, [863]) := rfl
theorem s_244_860 {d : Nat} {σ : xS} {st : List Value} {Q : xR → xS → Prop} {l0 l1 l2 l3 l4 l5 l6 l7 l8 : Option Value} {x : Int32} : G d 244 860 [l0, l1, l2, l3, l4, l5, l6, l7, l8] (.int x :: st) σ Q ↔ if x = 0 then G d 244 863 [l0, l1, l2, l3, l4, l5, l6, l7, l8] st σ Q else G d 244 861 [l0, l1, l2, l3, l4, l5, l6, l7, l8] st σ Q := gs_if f_244_860 rfl
theorem f_244_861 : ft 244 861 = some (1454, .iconst 0, []) := rfl
theorem s_244_861 {d : Nat} {σ : xS} {st : List Value} {Q : xR → xS → Prop} {l0 l1 l2 l3 l4 l5 l6 l7 l8 : Option Value} : G d 244 861 [l0, l1, l2, l3, l4, l5, l6, l7, l8] st σ Q ↔ G d 244 862 [l0, l1, l2, l3, l4, l5, l6, l7, l8] (.int (0) :: st) σ Q := gs_go f_244_861 rfl
theorem f_244_862 : ft 244 862 = some (1455, .ireturn, []) := rfl
theorem s_244_862 {d : Nat} {σ : xS} {ls : xL} {Q : xR → xS → Prop} {x : Int32} : G d 244 862 ls [.int x] σ Q ↔ ybo x ∧ Q (.inl (some (.int x))) σ := gs_retb f_244_862 rfl
theorem f_244_863 : ft 244 863 = some (1456, .goto 30, [879]) := rfl
theorem s_244_863 {d : Nat} {σ : xS} {st : List Value} {Q : xR → xS → Prop} {l0 l1 l2 l3 l4 l5 l6 l7 l8 : Option Value} : G d 244 863 [l0, l1, l2, l3, l4, l5, l6, l7, l8] st σ Q ↔ G d 244 879 [l0, l1, l2, l3, l4, l5, l6, l7, l8] st σ Q := gs_go f_244_863 rfl
theorem f_244_864 : ft 244 864 = some (1459, .aload_n 1, []) := rfl
theorem s_244_864 {d : Nat} {σ : xS} {st : List Value} {Q : xR → xS → Prop} {l0 l2 l3 l4 l5 l6 l7 l8 : Option Value} {x : Nat} : G d 244 864 [l0, some (.ref x), l2, l3, l4, l5, l6, l7, l8] st σ Q ↔ G d 244 865 [l0, some (.ref x), l2, l3, l4, l5, l6, l7, l8] (.ref x :: st) σ Q := gs_go f_244_864 rfl
theorem f_244_865 : ft 244 865 = some (1460, .invokevirtual 167, [117, 1, 0, 498]) := rfl
theorem s_244_865 {d : Nat} {t : yT} {st : List Value} {Q : xR → xS → Prop} {l0 l1 l2 l3 l4 l5 l6 l7 l8 : Option Value} {a0 : Nat} (ho : yisO 7 a0) : G (d + 1) 244 865 [l0, l1, l2, l3, l4, l5, l6, l7, l8] (.ref a0 :: st) (yemb t) Q ↔ xcat st ≤ 8 ∧ Cl d 117 [.ref a0] (yemb t) (Gk (d + 1) 244 865 [l0, l1, l2, l3, l4, l5, l6, l7, l8] st Q) := gs_call f_244_865 ((xinv_call (i := 865) (n := 498) (ls := [l0, l1, l2, l3, l4, l5, l6, l7, l8]) (kind := 0) (σ := yemb t) (by decide)).trans (xcall_vi [.ref a0] rfl rfl (show (1 : Nat) ≤ 1 by decide) rfl ho))
theorem f_244_866 : ft 244 866 = some (1463, .aload_n 2, []) := rfl
theorem s_244_866 {d : Nat} {σ : xS} {st : List Value} {Q : xR → xS → Prop} {l0 l1 l3 l4 l5 l6 l7 l8 : Option Value} {x : Nat} : G d 244 866 [l0, l1, some (.ref x), l3, l4, l5, l6, l7, l8] st σ Q ↔ G d 244 867 [l0, l1, some (.ref x), l3, l4, l5, l6, l7, l8] (.ref x :: st) σ Q := gs_go f_244_866 rfl
theorem f_244_867 : ft 244 867 = some (1464, .invokevirtual 170, [214, 1, 0, 1644]) := rfl
theorem s_244_867 {d : Nat} {t : yT} {st : List Value} {Q : xR → xS → Prop} {l0 l1 l2 l3 l4 l5 l6 l7 l8 : Option Value} {a0 : Nat} (ho : yisO 8 a0) : G (d + 1) 244 867 [l0, l1, l2, l3, l4, l5, l6, l7, l8] (.ref a0 :: st) (yemb t) Q ↔ xcat st ≤ 8 ∧ Cl d 214 [.ref a0] (yemb t) (Gk (d + 1) 244 867 [l0, l1, l2, l3, l4, l5, l6, l7, l8] st Q) := gs_call f_244_867 ((xinv_call (i := 867) (n := 1644) (ls := [l0, l1, l2, l3, l4, l5, l6, l7, l8]) (kind := 0) (σ := yemb t) (by decide)).trans (xcall_vi [.ref a0] rfl rfl (show (1 : Nat) ≤ 1 by decide) rfl ho))
theorem f_244_868 : ft 244 868 = some (1467, .if_icmp .eq 19, [879]) := rfl
theorem s_244_868 {d : Nat} {σ : xS} {st : List Value} {Q : xR → xS → Prop} {l0 l1 l2 l3 l4 l5 l6 l7 l8 : Option Value} {x y : Int32} : G d 244 868 [l0, l1, l2, l3, l4, l5, l6, l7, l8] (.int y :: .int x :: st) σ Q ↔ if x = y then G d 244 879 [l0, l1, l2, l3, l4, l5, l6, l7, l8] st σ Q else G d 244 869 [l0, l1, l2, l3, l4, l5, l6, l7, l8] st σ Q := gs_if f_244_868 rfl
theorem f_244_869 : ft 244 869 = some (1470, .iconst 0, []) := rfl
theorem s_244_869 {d : Nat} {σ : xS} {st : List Value} {Q : xR → xS → Prop} {l0 l1 l2 l3 l4 l5 l6 l7 l8 : Option Value} : G d 244 869 [l0, l1, l2, l3, l4, l5, l6, l7, l8] st σ Q ↔ G d 244 870 [l0, l1, l2, l3, l4, l5, l6, l7, l8] (.int (0) :: st) σ Q := gs_go f_244_869 rfl
theorem f_244_870 : ft 244 870 = some (1471, .ireturn, []) := rfl
theorem s_244_870 {d : Nat} {σ : xS} {ls : xL} {Q : xR → xS → Prop} {x : Int32} : G d 244 870 ls [.int x] σ Q ↔ ybo x ∧ Q (.inl (some (.int x))) σ := gs_retb f_244_870 rfl
theorem f_244_871 : ft 244 871 = some (1472, .aload_n 1, []) := rfl
theorem s_244_871 {d : Nat} {σ : xS} {st : List Value} {Q : xR → xS → Prop} {l0 l2 l3 l4 l5 l6 l7 l8 : Option Value} {x : Nat} : G d 244 871 [l0, some (.ref x), l2, l3, l4, l5, l6, l7, l8] st σ Q ↔ G d 244 872 [l0, some (.ref x), l2, l3, l4, l5, l6, l7, l8] (.ref x :: st) σ Q := gs_go f_244_871 rfl
theorem f_244_872 : ft 244 872 = some (1473, .invokevirtual 171, [118, 1, 0, 513]) := rfl
theorem s_244_872 {d : Nat} {t : yT} {st : List Value} {Q : xR → xS → Prop} {l0 l1 l2 l3 l4 l5 l6 l7 l8 : Option Value} {a0 : Nat} (ho : yisO 7 a0) : G (d + 1) 244 872 [l0, l1, l2, l3, l4, l5, l6, l7, l8] (.ref a0 :: st) (yemb t) Q ↔ xcat st ≤ 8 ∧ Cl d 118 [.ref a0] (yemb t) (Gk (d + 1) 244 872 [l0, l1, l2, l3, l4, l5, l6, l7, l8] st Q) := gs_call f_244_872 ((xinv_call (i := 872) (n := 513) (ls := [l0, l1, l2, l3, l4, l5, l6, l7, l8]) (kind := 0) (σ := yemb t) (by decide)).trans (xcall_vi [.ref a0] rfl rfl (show (1 : Nat) ≤ 5 by decide) rfl ho))
theorem f_244_873 : ft 244 873 = some (1476, .aload_n 2, []) := rfl
theorem s_244_873 {d : Nat} {σ : xS} {st : List Value} {Q : xR → xS → Prop} {l0 l1 l3 l4 l5 l6 l7 l8 : Option Value} {x : Nat} : G d 244 873 [l0, l1, some (.ref x), l3, l4, l5, l6, l7, l8] st σ Q ↔ G d 244 874 [l0, l1, some (.ref x), l3, l4, l5, l6, l7, l8] (.ref x :: st) σ Q := gs_go f_244_873 rfl
theorem f_244_874 : ft 244 874 = some (1477, .invokevirtual 175, [215, 1, 0, 1648]) := rfl
theorem s_244_874 {d : Nat} {t : yT} {st : List Value} {Q : xR → xS → Prop} {l0 l1 l2 l3 l4 l5 l6 l7 l8 : Option Value} {a0 : Nat} (ho : yisO 8 a0) : G (d + 1) 244 874 [l0, l1, l2, l3, l4, l5, l6, l7, l8] (.ref a0 :: st) (yemb t) Q ↔ xcat st ≤ 8 ∧ Cl d 215 [.ref a0] (yemb t) (Gk (d + 1) 244 874 [l0, l1, l2, l3, l4, l5, l6, l7, l8] st Q) := gs_call f_244_874 ((xinv_call (i := 874) (n := 1648) (ls := [l0, l1, l2, l3, l4, l5, l6, l7, l8]) (kind := 0) (σ := yemb t) (by decide)).trans (xcall_vi [.ref a0] rfl rfl (show (1 : Nat) ≤ 5 by decide) rfl ho))
theorem f_244_875 : ft 244 875 = some (1480, .lcmp, []) := rfl
theorem s_244_875 {d : Nat} {σ : xS} {st : List Value} {Q : xR → xS → Prop} {l0 l1 l2 l3 l4 l5 l6 l7 l8 : Option Value} {x y : Int64} : G d 244 875 [l0, l1, l2, l3, l4, l5, l6, l7, l8] (.long y :: .long x :: st) σ Q ↔ G d 244 876 [l0, l1, l2, l3, l4, l5, l6, l7, l8] (.int (lg_cmp x y) :: st) σ Q := gs_go f_244_875 rfl
theorem f_244_876 : ft 244 876 = some (1481, .ifCond .eq 5, [879]) := rfl
theorem s_244_876 {d : Nat} {σ : xS} {st : List Value} {Q : xR → xS → Prop} {l0 l1 l2 l3 l4 l5 l6 l7 l8 : Option Value} {x : Int32} : G d 244 876 [l0, l1, l2, l3, l4, l5, l6, l7, l8] (.int x :: st) σ Q ↔ if x = 0 then G d 244 879 [l0, l1, l2, l3, l4, l5, l6, l7, l8] st σ Q else G d 244 877 [l0, l1, l2, l3, l4, l5, l6, l7, l8] st σ Q := gs_if f_244_876 rfl
theorem f_244_877 : ft 244 877 = some (1484, .iconst 0, []) := rfl
theorem s_244_877 {d : Nat} {σ : xS} {st : List Value} {Q : xR → xS → Prop} {l0 l1 l2 l3 l4 l5 l6 l7 l8 : Option Value} : G d 244 877 [l0, l1, l2, l3, l4, l5, l6, l7, l8] st σ Q ↔ G d 244 878 [l0, l1, l2, l3, l4, l5, l6, l7, l8] (.int (0) :: st) σ Q := gs_go f_244_877 rfl
theorem f_244_878 : ft 244 878 = some (1485, .ireturn, []) := rfl
theorem s_244_878 {d : Nat} {σ : xS} {ls : xL} {Q : xR → xS → Prop} {x : Int32} : G d 244 878 ls [.int x] σ Q ↔ ybo x ∧ Q (.inl (some (.int x))) σ := gs_retb f_244_878 rfl
theorem f_244_879 : ft 244 879 = some (1486, .iinc 4 6, []) := rfl
theorem s_244_879 {d : Nat} {σ : xS} {st : List Value} {Q : xR → xS → Prop} {l0 l1 l2 l3 l5 l6 l7 l8 : Option Value} {x : Int32} : G d 244 879 [l0, l1, l2, l3, some (.int x), l5, l6, l7, l8] st σ Q ↔ G d 244 880 [l0, l1, l2, ykl l3, some (.int (x + 6)), l5, l6, l7, l8] st σ Q := by
  cases l3 with
  | none => exact gs_go f_244_879 rfl
  | some v => cases v <;> exact gs_go f_244_879 rfl
theorem f_244_880 : ft 244 880 = some (1489, .goto (-1466), [13]) := rfl
theorem s_244_880 {d : Nat} {σ : xS} {st : List Value} {Q : xR → xS → Prop} {l0 l1 l2 l3 l4 l5 l6 l7 l8 : Option Value} : G d 244 880 [l0, l1, l2, l3, l4, l5, l6, l7, l8] st σ Q ↔ G d 244 13 [l0, l1, l2, l3, l4, l5, l6, l7, l8] st σ Q := gs_go f_244_880 rfl
theorem f_244_881 : ft 244 881 = some (1492, .iconst 1, []) := rfl
theorem s_244_881 {d : Nat} {σ : xS} {st : List Value} {Q : xR → xS → Prop} {l0 l1 l2 l3 l4 l5 l6 l7 l8 : Option Value} : G d 244 881 [l0, l1, l2, l3, l4, l5, l6, l7, l8] st σ Q ↔ G d 244 882 [l0, l1, l2, l3, l4, l5, l6, l7, l8] (.int (1) :: st) σ Q := gs_go f_244_881 rfl
theorem f_244_882 : ft 244 882 = some (1493, .ireturn, []) := rfl
theorem s_244_882 {d : Nat} {σ : xS} {ls : xL} {Q : xR → xS → Prop} {x : Int32} : G d 244 882 ls [.int x] σ Q ↔ ybo x ∧ Q (.inl (some (.int x))) σ := gs_retb f_244_882 rfl

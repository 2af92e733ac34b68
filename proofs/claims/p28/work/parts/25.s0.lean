theorem yum0 : ∀ a s : Nat, (ytm 0 a)[s]? = some yFd.m → s = 2 := by
  intro a s h
  match s, h with
  | 2, _ => rfl
  | 0, h => cases h
  | 1, h => cases h
  | 3, h => cases h
  | n + 4, h => cases h
theorem yum4 : ∀ a s : Nat, (ytm 4 a)[s]? = some yFd.m → s = 16 := by
  intro a s h
  match s, h with
  | 0, h => cases h
  | 1, h => cases h
  | 2, h => cases h
  | 3, h => cases h
  | 4, h => cases h
  | 5, h => cases h
  | 6, h => cases h
  | 7, h => cases h
  | 8, h => cases h
  | 9, h => cases h
  | 10, h => cases h
  | 11, h => cases h
  | 12, h => cases h
  | 13, h => cases h
  | 14, h => cases h
  | 15, h => cases h
  | 16, h => rfl
  | 17, h => cases h
  | n + 18, h => cases h
theorem f_0_0 : ft 0 0 = some (0, .aload_n 0, []) := rfl
theorem s_0_0 {d : Nat} {σ : xS} {st : List Value} {Q : xR → xS → Prop} {x : Nat} : G d 0 0 [some (.ref x)] st σ Q ↔ G d 0 1 [some (.ref x)] (.ref x :: st) σ Q := gs_go f_0_0 rfl
theorem f_0_1 : ft 0 1 = some (1, .invokespecial 3, [0, 1, 20, 114]) := rfl
theorem f_0_2 : ft 0 2 = some (4, .aload_n 0, []) := rfl
theorem s_0_2 {d : Nat} {σ : xS} {st : List Value} {Q : xR → xS → Prop} {x : Nat} : G d 0 2 [some (.ref x)] st σ Q ↔ G d 0 3 [some (.ref x)] (.ref x :: st) σ Q := gs_go f_0_2 rfl
theorem f_0_3 : ft 0 3 = some (5, .sipush 256, []) := rfl
theorem s_0_3 {d : Nat} {σ : xS} {st : List Value} {Q : xR → xS → Prop} {l0 : Option Value} : G d 0 3 [l0] st σ Q ↔ G d 0 4 [l0] (.int (256) :: st) σ Q := gs_go f_0_3 rfl
theorem f_0_4 : ft 0 4 = some (8, .newarray .int, [0]) := rfl
theorem f_0_5 : ft 0 5 = some (10, .putfield 9, [0, 0, 0, 115]) := rfl
theorem f_0_6 : ft 0 6 = some (13, .aload_n 0, []) := rfl
theorem s_0_6 {d : Nat} {σ : xS} {st : List Value} {Q : xR → xS → Prop} {x : Nat} : G d 0 6 [some (.ref x)] st σ Q ↔ G d 0 7 [some (.ref x)] (.ref x :: st) σ Q := gs_go f_0_6 rfl
theorem f_0_7 : ft 0 7 = some (14, .bipush 16, []) := rfl
theorem s_0_7 {d : Nat} {σ : xS} {st : List Value} {Q : xR → xS → Prop} {l0 : Option Value} : G d 0 7 [l0] st σ Q ↔ G d 0 8 [l0] (.int (16) :: st) σ Q := gs_go f_0_7 rfl
theorem f_0_8 : ft 0 8 = some (16, .newarray .int, [0]) := rfl
theorem f_0_9 : ft 0 9 = some (18, .putfield 15, [0, 1, 0, 116]) := rfl
theorem f_0_10 : ft 0 10 = some (21, .aload_n 0, []) := rfl
theorem s_0_10 {d : Nat} {σ : xS} {st : List Value} {Q : xR → xS → Prop} {x : Nat} : G d 0 10 [some (.ref x)] st σ Q ↔ G d 0 11 [some (.ref x)] (.ref x :: st) σ Q := gs_go f_0_10 rfl
theorem f_0_11 : ft 0 11 = some (22, .iconst 0, []) := rfl
theorem s_0_11 {d : Nat} {σ : xS} {st : List Value} {Q : xR → xS → Prop} {l0 : Option Value} : G d 0 11 [l0] st σ Q ↔ G d 0 12 [l0] (.int (0) :: st) σ Q := gs_go f_0_11 rfl
theorem f_0_12 : ft 0 12 = some (23, .newarray .int, [0]) := rfl
theorem f_0_13 : ft 0 13 = some (25, .putfield 18, [0, 2, 0, 117]) := rfl
theorem s_0_13 {d : Nat} {t : yT} {st : List Value} {Q : xR → xS → Prop} {l0 : Option Value} {a x : Nat} (ho : yisO 0 a) : G d 0 13 [l0] (.ref x :: .ref a :: st) (yemb t) Q ↔ G d 0 14 [l0] st (yemb (t.sR a x)) Q := gs_putR (c := 0) (j := 2) f_0_13 (fun _ => rfl) yum0 rfl rfl ho
theorem f_0_14 : ft 0 14 = some (28, .aload_n 0, []) := rfl
theorem s_0_14 {d : Nat} {σ : xS} {st : List Value} {Q : xR → xS → Prop} {x : Nat} : G d 0 14 [some (.ref x)] st σ Q ↔ G d 0 15 [some (.ref x)] (.ref x :: st) σ Q := gs_go f_0_14 rfl
theorem f_0_15 : ft 0 15 = some (29, .sipush 255, []) := rfl
theorem s_0_15 {d : Nat} {σ : xS} {st : List Value} {Q : xR → xS → Prop} {l0 : Option Value} : G d 0 15 [l0] st σ Q ↔ G d 0 16 [l0] (.int (255) :: st) σ Q := gs_go f_0_15 rfl
theorem f_0_16 : ft 0 16 = some (32, .putfield 21, [0, 3, 0, 118]) := rfl
theorem s_0_16 {d : Nat} {t : yT} {st : List Value} {Q : xR → xS → Prop} {l0 : Option Value} {a : Nat} {x : Int32} (ho : yisO 0 a) : G d 0 16 [l0] (.int x :: .ref a :: st) (yemb t) Q ↔ G d 0 17 [l0] st (yemb (t.s1 a 3 x)) Q := gs_putI (c := 0) (j := 3) f_0_16 (fun _ => rfl) rfl rfl ho
theorem f_0_17 : ft 0 17 = some (35, .return_, []) := rfl
theorem s_0_17 {d : Nat} {σ : xS} {ls : xL} {Q : xR → xS → Prop} : G d 0 17 ls [] σ Q ↔ Q (.inl none) σ := gs_ret f_0_17 rfl
theorem f_1_0 : ft 1 0 = some (0, .aload_n 0, []) := rfl
theorem s_1_0 {d : Nat} {σ : xS} {st : List Value} {Q : xR → xS → Prop} {l1 l2 : Option Value} {x : Nat} : G d 1 0 [some (.ref x), l1, l2] st σ Q ↔ G d 1 1 [some (.ref x), l1, l2] (.ref x :: st) σ Q := gs_go f_1_0 rfl
theorem f_1_1 : ft 1 1 = some (1, .aload_n 1, []) := rfl
theorem s_1_1 {d : Nat} {σ : xS} {st : List Value} {Q : xR → xS → Prop} {l0 l2 : Option Value} {x : Nat} : G d 1 1 [l0, some (.ref x), l2] st σ Q ↔ G d 1 2 [l0, some (.ref x), l2] (.ref x :: st) σ Q := gs_go f_1_1 rfl
theorem f_1_2 : ft 1 2 = some (2, .putfield 18, [0, 2, 0, 117]) := rfl
theorem s_1_2 {d : Nat} {t : yT} {st : List Value} {Q : xR → xS → Prop} {l0 l1 l2 : Option Value} {a x : Nat} (ho : yisO 0 a) : G d 1 2 [l0, l1, l2] (.ref x :: .ref a :: st) (yemb t) Q ↔ G d 1 3 [l0, l1, l2] st (yemb (t.sR a x)) Q := gs_putR (c := 0) (j := 2) f_1_2 (fun _ => rfl) yum0 rfl rfl ho
theorem f_1_3 : ft 1 3 = some (5, .aload_n 0, []) := rfl
theorem s_1_3 {d : Nat} {σ : xS} {st : List Value} {Q : xR → xS → Prop} {l1 l2 : Option Value} {x : Nat} : G d 1 3 [some (.ref x), l1, l2] st σ Q ↔ G d 1 4 [some (.ref x), l1, l2] (.ref x :: st) σ Q := gs_go f_1_3 rfl
theorem f_1_4 : ft 1 4 = some (6, .iload_n 2, []) := rfl
theorem s_1_4 {d : Nat} {σ : xS} {st : List Value} {Q : xR → xS → Prop} {l0 l1 : Option Value} {x : Int32} : G d 1 4 [l0, l1, some (.int x)] st σ Q ↔ G d 1 5 [l0, l1, some (.int x)] (.int x :: st) σ Q := gs_go f_1_4 rfl
theorem f_1_5 : ft 1 5 = some (7, .putfield 21, [0, 3, 0, 118]) := rfl
theorem s_1_5 {d : Nat} {t : yT} {st : List Value} {Q : xR → xS → Prop} {l0 l1 l2 : Option Value} {a : Nat} {x : Int32} (ho : yisO 0 a) : G d 1 5 [l0, l1, l2] (.int x :: .ref a :: st) (yemb t) Q ↔ G d 1 6 [l0, l1, l2] st (yemb (t.s1 a 3 x)) Q := gs_putI (c := 0) (j := 3) f_1_5 (fun _ => rfl) rfl rfl ho
theorem f_1_6 : ft 1 6 = some (10, .aload_n 0, []) := rfl
theorem s_1_6 {d : Nat} {σ : xS} {st : List Value} {Q : xR → xS → Prop} {l1 l2 : Option Value} {x : Nat} : G d 1 6 [some (.ref x), l1, l2] st σ Q ↔ G d 1 7 [some (.ref x), l1, l2] (.ref x :: st) σ Q := gs_go f_1_6 rfl
theorem f_1_7 : ft 1 7 = some (11, .getfield 9, [0, 0, 0, 115]) := rfl
theorem s_1_7 {d : Nat} {t : yT} {st : List Value} {Q : xR → xS → Prop} {l0 l1 l2 : Option Value} {a : Nat} (ho : yisO 0 a) : G d 1 7 [l0, l1, l2] (.ref a :: st) (yemb t) Q ↔ G d 1 8 [l0, l1, l2] (.ref 4 :: st) (yemb t) Q := gs_getf (c := 0) (j := 0) (q := .c 4) f_1_7 ho rfl
theorem f_1_8 : ft 1 8 = some (14, .iconst (-1), []) := rfl
theorem s_1_8 {d : Nat} {σ : xS} {st : List Value} {Q : xR → xS → Prop} {l0 l1 l2 : Option Value} : G d 1 8 [l0, l1, l2] st σ Q ↔ G d 1 9 [l0, l1, l2] (.int (-1) :: st) σ Q := gs_go f_1_8 rfl
theorem f_1_9 : ft 1 9 = some (15, .invokestatic 25, [223, 2, 1, 990]) := rfl
theorem s_1_9 {d : Nat} {σ : xS} {st : List Value} {Q : xR → xS → Prop} {l0 l1 l2 : Option Value} {a0 : Nat} {a1 : Int32} : G (d + 1) 1 9 [l0, l1, l2] (.int a1 :: .ref a0 :: st) σ Q ↔ xcat st ≤ 8 ∧ Cl d 223 [.ref a0, .int a1] σ (Gk (d + 1) 1 9 [l0, l1, l2] st Q) := gs_call f_1_9 ((xinv_call (i := 9) (n := 990) (ls := [l0, l1, l2]) (kind := 1) (σ := σ) (by decide)).trans (xcall_st [.int a1, .ref a0] rfl (by decide) (show (2 : Nat) ≤ 4 by decide)))
theorem f_1_10 : ft 1 10 = some (18, .return_, []) := rfl
theorem s_1_10 {d : Nat} {σ : xS} {ls : xL} {Q : xR → xS → Prop} : G d 1 10 ls [] σ Q ↔ Q (.inl none) σ := gs_ret f_1_10 rfl
theorem f_2_0 : ft 2 0 = some (0, .iconst 0, []) := rfl
theorem s_2_0 {d : Nat} {σ : xS} {st : List Value} {Q : xR → xS → Prop} {l0 l1 l2 l3 l4 l5 : Option Value} : G d 2 0 [l0, l1, l2, l3, l4, l5] st σ Q ↔ G d 2 1 [l0, l1, l2, l3, l4, l5] (.int (0) :: st) σ Q := gs_go f_2_0 rfl
theorem f_2_1 : ft 2 1 = some (1, .istore_n 2, []) := rfl
theorem s_2_1 {d : Nat} {σ : xS} {st : List Value} {Q : xR → xS → Prop} {l0 l1 l2 l3 l4 l5 : Option Value} {x : Int32} : G d 2 1 [l0, l1, l2, l3, l4, l5] (.int x :: st) σ Q ↔ G d 2 2 [l0, ykl l1, some (.int x), l3, l4, l5] st σ Q := by
  cases l1 with
  | none => exact gs_go f_2_1 rfl
  | some v => cases v <;> exact gs_go f_2_1 rfl
theorem f_2_2 : ft 2 2 = some (2, .bipush 16, []) := rfl
theorem s_2_2 {d : Nat} {σ : xS} {st : List Value} {Q : xR → xS → Prop} {l0 l1 l2 l3 l4 l5 : Option Value} : G d 2 2 [l0, l1, l2, l3, l4, l5] st σ Q ↔ G d 2 3 [l0, l1, l2, l3, l4, l5] (.int (16) :: st) σ Q := gs_go f_2_2 rfl
theorem f_2_3 : ft 2 3 = some (4, .istore_n 3, []) := rfl
theorem s_2_3 {d : Nat} {σ : xS} {st : List Value} {Q : xR → xS → Prop} {l0 l1 l2 l3 l4 l5 : Option Value} {x : Int32} : G d 2 3 [l0, l1, l2, l3, l4, l5] (.int x :: st) σ Q ↔ G d 2 4 [l0, l1, ykl l2, some (.int x), l4, l5] st σ Q := by
  cases l2 with
  | none => exact gs_go f_2_3 rfl
  | some v => cases v <;> exact gs_go f_2_3 rfl
theorem f_2_4 : ft 2 4 = some (5, .iload_n 3, []) := rfl
theorem s_2_4 {d : Nat} {σ : xS} {st : List Value} {Q : xR → xS → Prop} {l0 l1 l2 l4 l5 : Option Value} {x : Int32} : G d 2 4 [l0, l1, l2, some (.int x), l4, l5] st σ Q ↔ G d 2 5 [l0, l1, l2, some (.int x), l4, l5] (.int x :: st) σ Q := gs_go f_2_4 rfl
theorem f_2_5 : ft 2 5 = some (6, .ifCond .lt 91, [53]) := rfl
theorem s_2_5 {d : Nat} {σ : xS} {st : List Value} {Q : xR → xS → Prop} {l0 l1 l2 l3 l4 l5 : Option Value} {x : Int32} : G d 2 5 [l0, l1, l2, l3, l4, l5] (.int x :: st) σ Q ↔ if x < 0 then G d 2 53 [l0, l1, l2, l3, l4, l5] st σ Q else G d 2 6 [l0, l1, l2, l3, l4, l5] st σ Q := gs_if f_2_5 rfl
theorem f_2_6 : ft 2 6 = some (9, .iload_n 1, []) := rfl
theorem s_2_6 {d : Nat} {σ : xS} {st : List Value} {Q : xR → xS → Prop} {l0 l2 l3 l4 l5 : Option Value} {x : Int32} : G d 2 6 [l0, some (.int x), l2, l3, l4, l5] st σ Q ↔ G d 2 7 [l0, some (.int x), l2, l3, l4, l5] (.int x :: st) σ Q := gs_go f_2_6 rfl
theorem f_2_7 : ft 2 7 = some (10, .iload_n 3, []) := rfl
theorem s_2_7 {d : Nat} {σ : xS} {st : List Value} {Q : xR → xS → Prop} {l0 l1 l2 l4 l5 : Option Value} {x : Int32} : G d 2 7 [l0, l1, l2, some (.int x), l4, l5] st σ Q ↔ G d 2 8 [l0, l1, l2, some (.int x), l4, l5] (.int x :: st) σ Q := gs_go f_2_7 rfl
theorem f_2_8 : ft 2 8 = some (11, .ishr, []) := rfl
theorem s_2_8 {d : Nat} {σ : xS} {st : List Value} {Q : xR → xS → Prop} {l0 l1 l2 l3 l4 l5 : Option Value} {x y : Int32} : G d 2 8 [l0, l1, l2, l3, l4, l5] (.int y :: .int x :: st) σ Q ↔ G d 2 9 [l0, l1, l2, l3, l4, l5] (.int (x >>> (y &&& 31)) :: st) σ Q := gs_go f_2_8 rfl
theorem f_2_9 : ft 2 9 = some (12, .sipush 255, []) := rfl
theorem s_2_9 {d : Nat} {σ : xS} {st : List Value} {Q : xR → xS → Prop} {l0 l1 l2 l3 l4 l5 : Option Value} : G d 2 9 [l0, l1, l2, l3, l4, l5] st σ Q ↔ G d 2 10 [l0, l1, l2, l3, l4, l5] (.int (255) :: st) σ Q := gs_go f_2_9 rfl
theorem f_2_10 : ft 2 10 = some (15, .iand, []) := rfl
theorem s_2_10 {d : Nat} {σ : xS} {st : List Value} {Q : xR → xS → Prop} {l0 l1 l2 l3 l4 l5 : Option Value} {x y : Int32} : G d 2 10 [l0, l1, l2, l3, l4, l5] (.int y :: .int x :: st) σ Q ↔ G d 2 11 [l0, l1, l2, l3, l4, l5] (.int (x &&& y) :: st) σ Q := gs_go f_2_10 rfl
theorem f_2_11 : ft 2 11 = some (16, .istore 4, []) := rfl
theorem s_2_11 {d : Nat} {σ : xS} {st : List Value} {Q : xR → xS → Prop} {l0 l1 l2 l3 l4 l5 : Option Value} {x : Int32} : G d 2 11 [l0, l1, l2, l3, l4, l5] (.int x :: st) σ Q ↔ G d 2 12 [l0, l1, l2, ykl l3, some (.int x), l5] st σ Q := by
  cases l3 with
  | none => exact gs_go f_2_11 rfl
  | some v => cases v <;> exact gs_go f_2_11 rfl
theorem f_2_12 : ft 2 12 = some (18, .aload_n 0, []) := rfl
theorem s_2_12 {d : Nat} {σ : xS} {st : List Value} {Q : xR → xS → Prop} {l1 l2 l3 l4 l5 : Option Value} {x : Nat} : G d 2 12 [some (.ref x), l1, l2, l3, l4, l5] st σ Q ↔ G d 2 13 [some (.ref x), l1, l2, l3, l4, l5] (.ref x :: st) σ Q := gs_go f_2_12 rfl
theorem f_2_13 : ft 2 13 = some (19, .getfield 9, [0, 0, 0, 115]) := rfl
theorem s_2_13 {d : Nat} {t : yT} {st : List Value} {Q : xR → xS → Prop} {l0 l1 l2 l3 l4 l5 : Option Value} {a : Nat} (ho : yisO 0 a) : G d 2 13 [l0, l1, l2, l3, l4, l5] (.ref a :: st) (yemb t) Q ↔ G d 2 14 [l0, l1, l2, l3, l4, l5] (.ref 4 :: st) (yemb t) Q := gs_getf (c := 0) (j := 0) (q := .c 4) f_2_13 ho rfl
theorem f_2_14 : ft 2 14 = some (22, .iload 4, []) := rfl
theorem s_2_14 {d : Nat} {σ : xS} {st : List Value} {Q : xR → xS → Prop} {l0 l1 l2 l3 l5 : Option Value} {x : Int32} : G d 2 14 [l0, l1, l2, l3, some (.int x), l5] st σ Q ↔ G d 2 15 [l0, l1, l2, l3, some (.int x), l5] (.int x :: st) σ Q := gs_go f_2_14 rfl
theorem f_2_15 : ft 2 15 = some (24, .iaload, []) := rfl
theorem s_2_15 {d : Nat} {t : yT} {st : List Value} {Q : xR → xS → Prop} {l0 l1 l2 l3 l4 l5 : Option Value} {a : Nat} {x : Int32} (ha : yA 0 a) : G d 2 15 [l0, l1, l2, l3, l4, l5] (.int x :: .ref a :: st) (yemb t) Q ↔ yix x (yn a) ∧ G d 2 16 [l0, l1, l2, l3, l4, l5] (.int (t.A a x.toNatClampNeg) :: st) (yemb t) Q := gs_iald f_2_15 ha
theorem f_2_16 : ft 2 16 = some (25, .iconst (-1), []) := rfl
theorem s_2_16 {d : Nat} {σ : xS} {st : List Value} {Q : xR → xS → Prop} {l0 l1 l2 l3 l4 l5 : Option Value} : G d 2 16 [l0, l1, l2, l3, l4, l5] st σ Q ↔ G d 2 17 [l0, l1, l2, l3, l4, l5] (.int (-1) :: st) σ Q := gs_go f_2_16 rfl
theorem f_2_17 : ft 2 17 = some (26, .if_icmp .ne 52, [42]) := rfl
theorem s_2_17 {d : Nat} {σ : xS} {st : List Value} {Q : xR → xS → Prop} {l0 l1 l2 l3 l4 l5 : Option Value} {x y : Int32} : G d 2 17 [l0, l1, l2, l3, l4, l5] (.int y :: .int x :: st) σ Q ↔ if x ≠ y then G d 2 42 [l0, l1, l2, l3, l4, l5] st σ Q else G d 2 18 [l0, l1, l2, l3, l4, l5] st σ Q := gs_if f_2_17 rfl
theorem f_2_18 : ft 2 18 = some (29, .aload_n 0, []) := rfl
theorem s_2_18 {d : Nat} {σ : xS} {st : List Value} {Q : xR → xS → Prop} {l1 l2 l3 l4 l5 : Option Value} {x : Nat} : G d 2 18 [some (.ref x), l1, l2, l3, l4, l5] st σ Q ↔ G d 2 19 [some (.ref x), l1, l2, l3, l4, l5] (.ref x :: st) σ Q := gs_go f_2_18 rfl
theorem f_2_19 : ft 2 19 = some (30, .getfield 18, [0, 2, 0, 117]) := rfl
theorem s_2_19 {d : Nat} {t : yT} {st : List Value} {Q : xR → xS → Prop} {l0 l1 l2 l3 l4 l5 : Option Value} {a : Nat} (ho : yisO 0 a) : G d 2 19 [l0, l1, l2, l3, l4, l5] (.ref a :: st) (yemb t) Q ↔ G d 2 20 [l0, l1, l2, l3, l4, l5] (.ref (t.R a) :: st) (yemb t) Q := gs_getf (c := 0) (j := 2) (q := .m) f_2_19 ho rfl
theorem f_2_20 : ft 2 20 = some (33, .arraylength, []) := rfl
theorem f_2_21 : ft 2 21 = some (34, .ifCond .ne 17, [29]) := rfl
theorem s_2_21 {d : Nat} {σ : xS} {st : List Value} {Q : xR → xS → Prop} {l0 l1 l2 l3 l4 l5 : Option Value} {x : Int32} : G d 2 21 [l0, l1, l2, l3, l4, l5] (.int x :: st) σ Q ↔ if x ≠ 0 then G d 2 29 [l0, l1, l2, l3, l4, l5] st σ Q else G d 2 22 [l0, l1, l2, l3, l4, l5] st σ Q := gs_if f_2_21 rfl
theorem f_2_22 : ft 2 22 = some (37, .iload 4, []) := rfl
theorem s_2_22 {d : Nat} {σ : xS} {st : List Value} {Q : xR → xS → Prop} {l0 l1 l2 l3 l5 : Option Value} {x : Int32} : G d 2 22 [l0, l1, l2, l3, some (.int x), l5] st σ Q ↔ G d 2 23 [l0, l1, l2, l3, some (.int x), l5] (.int x :: st) σ Q := gs_go f_2_22 rfl
theorem f_2_23 : ft 2 23 = some (39, .aload_n 0, []) := rfl
theorem s_2_23 {d : Nat} {σ : xS} {st : List Value} {Q : xR → xS → Prop} {l1 l2 l3 l4 l5 : Option Value} {x : Nat} : G d 2 23 [some (.ref x), l1, l2, l3, l4, l5] st σ Q ↔ G d 2 24 [some (.ref x), l1, l2, l3, l4, l5] (.ref x :: st) σ Q := gs_go f_2_23 rfl
theorem f_2_24 : ft 2 24 = some (40, .getfield 21, [0, 3, 0, 118]) := rfl
theorem s_2_24 {d : Nat} {t : yT} {st : List Value} {Q : xR → xS → Prop} {l0 l1 l2 l3 l4 l5 : Option Value} {a : Nat} (ho : yisO 0 a) : G d 2 24 [l0, l1, l2, l3, l4, l5] (.ref a :: st) (yemb t) Q ↔ G d 2 25 [l0, l1, l2, l3, l4, l5] (.int (t.A a 3) :: st) (yemb t) Q := gs_getf (c := 0) (j := 3) (q := .i) f_2_24 ho rfl
theorem f_2_25 : ft 2 25 = some (43, .imul, []) := rfl
theorem s_2_25 {d : Nat} {σ : xS} {st : List Value} {Q : xR → xS → Prop} {l0 l1 l2 l3 l4 l5 : Option Value} {x y : Int32} : G d 2 25 [l0, l1, l2, l3, l4, l5] (.int y :: .int x :: st) σ Q ↔ G d 2 26 [l0, l1, l2, l3, l4, l5] (.int (x * y) :: st) σ Q := gs_go f_2_25 rfl
theorem f_2_26 : ft 2 26 = some (44, .sipush 255, []) := rfl
theorem s_2_26 {d : Nat} {σ : xS} {st : List Value} {Q : xR → xS → Prop} {l0 l1 l2 l3 l4 l5 : Option Value} : G d 2 26 [l0, l1, l2, l3, l4, l5] st σ Q ↔ G d 2 27 [l0, l1, l2, l3, l4, l5] (.int (255) :: st) σ Q := gs_go f_2_26 rfl
theorem f_2_27 : ft 2 27 = some (47, .idiv, []) := rfl
theorem s_2_27 {d : Nat} {σ : xS} {st : List Value} {Q : xR → xS → Prop} {l0 l1 l2 l3 l4 l5 : Option Value} {x y : Int32} (h : ¬ y = 0) : G d 2 27 [l0, l1, l2, l3, l4, l5] (.int y :: .int x :: st) σ Q ↔ G d 2 28 [l0, l1, l2, l3, l4, l5] (.int (x / y) :: st) σ Q := gs_go f_2_27 (if_pos h)
theorem f_2_28 : ft 2 28 = some (48, .goto 9, [32]) := rfl
theorem s_2_28 {d : Nat} {σ : xS} {st : List Value} {Q : xR → xS → Prop} {l0 l1 l2 l3 l4 l5 : Option Value} : G d 2 28 [l0, l1, l2, l3, l4, l5] st σ Q ↔ G d 2 32 [l0, l1, l2, l3, l4, l5] st σ Q := gs_go f_2_28 rfl
theorem f_2_29 : ft 2 29 = some (51, .aload_n 0, []) := rfl
theorem s_2_29 {d : Nat} {σ : xS} {st : List Value} {Q : xR → xS → Prop} {l1 l2 l3 l4 l5 : Option Value} {x : Nat} : G d 2 29 [some (.ref x), l1, l2, l3, l4, l5] st σ Q ↔ G d 2 30 [some (.ref x), l1, l2, l3, l4, l5] (.ref x :: st) σ Q := gs_go f_2_29 rfl
theorem f_2_30 : ft 2 30 = some (52, .iload 4, []) := rfl
theorem s_2_30 {d : Nat} {σ : xS} {st : List Value} {Q : xR → xS → Prop} {l0 l1 l2 l3 l5 : Option Value} {x : Int32} : G d 2 30 [l0, l1, l2, l3, some (.int x), l5] st σ Q ↔ G d 2 31 [l0, l1, l2, l3, some (.int x), l5] (.int x :: st) σ Q := gs_go f_2_30 rfl
theorem f_2_31 : ft 2 31 = some (54, .invokevirtual 31, [3, 2, 0, 995]) := rfl
theorem s_2_31 {d : Nat} {t : yT} {st : List Value} {Q : xR → xS → Prop} {l0 l1 l2 l3 l4 l5 : Option Value} {a0 : Nat} {a1 : Int32} (ho : yisO 0 a0) : G (d + 1) 2 31 [l0, l1, l2, l3, l4, l5] (.int a1 :: .ref a0 :: st) (yemb t) Q ↔ xcat st ≤ 8 ∧ Cl d 3 [.ref a0, .int a1] (yemb t) (Gk (d + 1) 2 31 [l0, l1, l2, l3, l4, l5] st Q) := gs_call f_2_31 ((xinv_call (i := 31) (n := 995) (ls := [l0, l1, l2, l3, l4, l5]) (kind := 0) (σ := yemb t) (by decide)).trans (xcall_vi [.int a1, .ref a0] rfl rfl (show (2 : Nat) ≤ 7 by decide) rfl ho))
theorem f_2_32 : ft 2 32 = some (57, .istore 5, []) := rfl
theorem s_2_32 {d : Nat} {σ : xS} {st : List Value} {Q : xR → xS → Prop} {l0 l1 l2 l3 l4 l5 : Option Value} {x : Int32} : G d 2 32 [l0, l1, l2, l3, l4, l5] (.int x :: st) σ Q ↔ G d 2 33 [l0, l1, l2, l3, ykl l4, some (.int x)] st σ Q := by
  cases l4 with
  | none => exact gs_go f_2_32 rfl
  | some v => cases v <;> exact gs_go f_2_32 rfl
theorem f_2_33 : ft 2 33 = some (59, .aload_n 0, []) := rfl
theorem s_2_33 {d : Nat} {σ : xS} {st : List Value} {Q : xR → xS → Prop} {l1 l2 l3 l4 l5 : Option Value} {x : Nat} : G d 2 33 [some (.ref x), l1, l2, l3, l4, l5] st σ Q ↔ G d 2 34 [some (.ref x), l1, l2, l3, l4, l5] (.ref x :: st) σ Q := gs_go f_2_33 rfl
theorem f_2_34 : ft 2 34 = some (60, .getfield 9, [0, 0, 0, 115]) := rfl
theorem s_2_34 {d : Nat} {t : yT} {st : List Value} {Q : xR → xS → Prop} {l0 l1 l2 l3 l4 l5 : Option Value} {a : Nat} (ho : yisO 0 a) : G d 2 34 [l0, l1, l2, l3, l4, l5] (.ref a :: st) (yemb t) Q ↔ G d 2 35 [l0, l1, l2, l3, l4, l5] (.ref 4 :: st) (yemb t) Q := gs_getf (c := 0) (j := 0) (q := .c 4) f_2_34 ho rfl
theorem f_2_35 : ft 2 35 = some (63, .iload 4, []) := rfl
theorem s_2_35 {d : Nat} {σ : xS} {st : List Value} {Q : xR → xS → Prop} {l0 l1 l2 l3 l5 : Option Value} {x : Int32} : G d 2 35 [l0, l1, l2, l3, some (.int x), l5] st σ Q ↔ G d 2 36 [l0, l1, l2, l3, some (.int x), l5] (.int x :: st) σ Q := gs_go f_2_35 rfl
theorem f_2_36 : ft 2 36 = some (65, .iconst 0, []) := rfl
theorem s_2_36 {d : Nat} {σ : xS} {st : List Value} {Q : xR → xS → Prop} {l0 l1 l2 l3 l4 l5 : Option Value} : G d 2 36 [l0, l1, l2, l3, l4, l5] st σ Q ↔ G d 2 37 [l0, l1, l2, l3, l4, l5] (.int (0) :: st) σ Q := gs_go f_2_36 rfl
theorem f_2_37 : ft 2 37 = some (66, .sipush 255, []) := rfl
theorem s_2_37 {d : Nat} {σ : xS} {st : List Value} {Q : xR → xS → Prop} {l0 l1 l2 l3 l4 l5 : Option Value} : G d 2 37 [l0, l1, l2, l3, l4, l5] st σ Q ↔ G d 2 38 [l0, l1, l2, l3, l4, l5] (.int (255) :: st) σ Q := gs_go f_2_37 rfl
theorem f_2_38 : ft 2 38 = some (69, .iload 5, []) := rfl
theorem s_2_38 {d : Nat} {σ : xS} {st : List Value} {Q : xR → xS → Prop} {l0 l1 l2 l3 l4 : Option Value} {x : Int32} : G d 2 38 [l0, l1, l2, l3, l4, some (.int x)] st σ Q ↔ G d 2 39 [l0, l1, l2, l3, l4, some (.int x)] (.int x :: st) σ Q := gs_go f_2_38 rfl
theorem f_2_39 : ft 2 39 = some (71, .invokestatic 35, [0, 2, 25, 1006]) := rfl
theorem s_2_39 {d : Nat} {σ : xS} {st : List Value} {Q : xR → xS → Prop} {l0 l1 l2 l3 l4 l5 : Option Value} {x y : Int32} (h : xcat st ≤ 8) : G d 2 39 [l0, l1, l2, l3, l4, l5] (.int y :: .int x :: st) σ Q ↔ G d 2 40 [l0, l1, l2, l3, l4, l5] (.int (if y < x then y else x) :: st) σ Q := gs_go f_2_39 (if_pos h)
theorem f_2_40 : ft 2 40 = some (74, .invokestatic 41, [0, 2, 24, 1007]) := rfl
theorem s_2_40 {d : Nat} {σ : xS} {st : List Value} {Q : xR → xS → Prop} {l0 l1 l2 l3 l4 l5 : Option Value} {x y : Int32} (h : xcat st ≤ 8) : G d 2 40 [l0, l1, l2, l3, l4, l5] (.int y :: .int x :: st) σ Q ↔ G d 2 41 [l0, l1, l2, l3, l4, l5] (.int (if x < y then y else x) :: st) σ Q := gs_go f_2_40 (if_pos h)
theorem f_2_41 : ft 2 41 = some (77, .iastore, []) := rfl
theorem s_2_41 {d : Nat} {t : yT} {st : List Value} {Q : xR → xS → Prop} {l0 l1 l2 l3 l4 l5 : Option Value} {a : Nat} {x v : Int32} (ha : yA 0 a) : G d 2 41 [l0, l1, l2, l3, l4, l5] (.int v :: .int x :: .ref a :: st) (yemb t) Q ↔ yix x (yn a) ∧ G d 2 42 [l0, l1, l2, l3, l4, l5] st (yemb (t.s1 a x.toNatClampNeg v)) Q := gs_iast f_2_41 ha
theorem f_2_42 : ft 2 42 = some (78, .iload_n 2, []) := rfl
theorem s_2_42 {d : Nat} {σ : xS} {st : List Value} {Q : xR → xS → Prop} {l0 l1 l3 l4 l5 : Option Value} {x : Int32} : G d 2 42 [l0, l1, some (.int x), l3, l4, l5] st σ Q ↔ G d 2 43 [l0, l1, some (.int x), l3, l4, l5] (.int x :: st) σ Q := gs_go f_2_42 rfl
theorem f_2_43 : ft 2 43 = some (79, .bipush 8, []) := rfl
theorem s_2_43 {d : Nat} {σ : xS} {st : List Value} {Q : xR → xS → Prop} {l0 l1 l2 l3 l4 l5 : Option Value} : G d 2 43 [l0, l1, l2, l3, l4, l5] st σ Q ↔ G d 2 44 [l0, l1, l2, l3, l4, l5] (.int (8) :: st) σ Q := gs_go f_2_43 rfl
theorem f_2_44 : ft 2 44 = some (81, .ishl, []) := rfl
theorem s_2_44 {d : Nat} {σ : xS} {st : List Value} {Q : xR → xS → Prop} {l0 l1 l2 l3 l4 l5 : Option Value} {x y : Int32} : G d 2 44 [l0, l1, l2, l3, l4, l5] (.int y :: .int x :: st) σ Q ↔ G d 2 45 [l0, l1, l2, l3, l4, l5] (.int (x <<< (y &&& 31)) :: st) σ Q := gs_go f_2_44 rfl
theorem f_2_45 : ft 2 45 = some (82, .aload_n 0, []) := rfl
theorem s_2_45 {d : Nat} {σ : xS} {st : List Value} {Q : xR → xS → Prop} {l1 l2 l3 l4 l5 : Option Value} {x : Nat} : G d 2 45 [some (.ref x), l1, l2, l3, l4, l5] st σ Q ↔ G d 2 46 [some (.ref x), l1, l2, l3, l4, l5] (.ref x :: st) σ Q := gs_go f_2_45 rfl
theorem f_2_46 : ft 2 46 = some (83, .getfield 9, [0, 0, 0, 115]) := rfl
theorem s_2_46 {d : Nat} {t : yT} {st : List Value} {Q : xR → xS → Prop} {l0 l1 l2 l3 l4 l5 : Option Value} {a : Nat} (ho : yisO 0 a) : G d 2 46 [l0, l1, l2, l3, l4, l5] (.ref a :: st) (yemb t) Q ↔ G d 2 47 [l0, l1, l2, l3, l4, l5] (.ref 4 :: st) (yemb t) Q := gs_getf (c := 0) (j := 0) (q := .c 4) f_2_46 ho rfl
theorem f_2_47 : ft 2 47 = some (86, .iload 4, []) := rfl
theorem s_2_47 {d : Nat} {σ : xS} {st : List Value} {Q : xR → xS → Prop} {l0 l1 l2 l3 l5 : Option Value} {x : Int32} : G d 2 47 [l0, l1, l2, l3, some (.int x), l5] st σ Q ↔ G d 2 48 [l0, l1, l2, l3, some (.int x), l5] (.int x :: st) σ Q := gs_go f_2_47 rfl
theorem f_2_48 : ft 2 48 = some (88, .iaload, []) := rfl
theorem s_2_48 {d : Nat} {t : yT} {st : List Value} {Q : xR → xS → Prop} {l0 l1 l2 l3 l4 l5 : Option Value} {a : Nat} {x : Int32} (ha : yA 0 a) : G d 2 48 [l0, l1, l2, l3, l4, l5] (.int x :: .ref a :: st) (yemb t) Q ↔ yix x (yn a) ∧ G d 2 49 [l0, l1, l2, l3, l4, l5] (.int (t.A a x.toNatClampNeg) :: st) (yemb t) Q := gs_iald f_2_48 ha
theorem f_2_49 : ft 2 49 = some (89, .ior, []) := rfl
theorem s_2_49 {d : Nat} {σ : xS} {st : List Value} {Q : xR → xS → Prop} {l0 l1 l2 l3 l4 l5 : Option Value} {x y : Int32} : G d 2 49 [l0, l1, l2, l3, l4, l5] (.int y :: .int x :: st) σ Q ↔ G d 2 50 [l0, l1, l2, l3, l4, l5] (.int (x ||| y) :: st) σ Q := gs_go f_2_49 rfl
theorem f_2_50 : ft 2 50 = some (90, .istore_n 2, []) := rfl
theorem s_2_50 {d : Nat} {σ : xS} {st : List Value} {Q : xR → xS → Prop} {l0 l1 l2 l3 l4 l5 : Option Value} {x : Int32} : G d 2 50 [l0, l1, l2, l3, l4, l5] (.int x :: st) σ Q ↔ G d 2 51 [l0, ykl l1, some (.int x), l3, l4, l5] st σ Q := by
  cases l1 with
  | none => exact gs_go f_2_50 rfl
  | some v => cases v <;> exact gs_go f_2_50 rfl
theorem f_2_51 : ft 2 51 = some (91, .iinc 3 (-8), []) := rfl
theorem s_2_51 {d : Nat} {σ : xS} {st : List Value} {Q : xR → xS → Prop} {l0 l1 l2 l4 l5 : Option Value} {x : Int32} : G d 2 51 [l0, l1, l2, some (.int x), l4, l5] st σ Q ↔ G d 2 52 [l0, l1, ykl l2, some (.int (x + (-8))), l4, l5] st σ Q := by
  cases l2 with
  | none => exact gs_go f_2_51 rfl
  | some v => cases v <;> exact gs_go f_2_51 rfl
theorem f_2_52 : ft 2 52 = some (94, .goto (-89), [4]) := rfl
theorem s_2_52 {d : Nat} {σ : xS} {st : List Value} {Q : xR → xS → Prop} {l0 l1 l2 l3 l4 l5 : Option Value} : G d 2 52 [l0, l1, l2, l3, l4, l5] st σ Q ↔ G d 2 4 [l0, l1, l2, l3, l4, l5] st σ Q := gs_go f_2_52 rfl
theorem f_2_53 : ft 2 53 = some (97, .iload_n 2, []) := rfl
theorem s_2_53 {d : Nat} {σ : xS} {st : List Value} {Q : xR → xS → Prop} {l0 l1 l3 l4 l5 : Option Value} {x : Int32} : G d 2 53 [l0, l1, some (.int x), l3, l4, l5] st σ Q ↔ G d 2 54 [l0, l1, some (.int x), l3, l4, l5] (.int x :: st) σ Q := gs_go f_2_53 rfl
theorem f_2_54 : ft 2 54 = some (98, .ireturn, []) := rfl
theorem s_2_54 {d : Nat} {σ : xS} {ls : xL} {Q : xR → xS → Prop} {x : Int32} : G d 2 54 ls [.int x] σ Q ↔ Q (.inl (some (.int x))) σ := gs_reti f_2_54 rfl
theorem f_3_0 : ft 3 0 = some (0, .iconst 0, []) := rfl
theorem s_3_0 {d : Nat} {σ : xS} {st : List Value} {Q : xR → xS → Prop} {l0 l1 l2 l3 l4 l5 l6 : Option Value} : G d 3 0 [l0, l1, l2, l3, l4, l5, l6] st σ Q ↔ G d 3 1 [l0, l1, l2, l3, l4, l5, l6] (.int (0) :: st) σ Q := gs_go f_3_0 rfl
theorem f_3_1 : ft 3 1 = some (1, .istore_n 2, []) := rfl
theorem s_3_1 {d : Nat} {σ : xS} {st : List Value} {Q : xR → xS → Prop} {l0 l1 l2 l3 l4 l5 l6 : Option Value} {x : Int32} : G d 3 1 [l0, l1, l2, l3, l4, l5, l6] (.int x :: st) σ Q ↔ G d 3 2 [l0, ykl l1, some (.int x), l3, l4, l5, l6] st σ Q := by
  cases l1 with
  | none => exact gs_go f_3_1 rfl
  | some v => cases v <;> exact gs_go f_3_1 rfl
theorem f_3_2 : ft 3 2 = some (2, .iconst 0, []) := rfl
theorem s_3_2 {d : Nat} {σ : xS} {st : List Value} {Q : xR → xS → Prop} {l0 l1 l2 l3 l4 l5 l6 : Option Value} : G d 3 2 [l0, l1, l2, l3, l4, l5, l6] st σ Q ↔ G d 3 3 [l0, l1, l2, l3, l4, l5, l6] (.int (0) :: st) σ Q := gs_go f_3_2 rfl
theorem f_3_3 : ft 3 3 = some (3, .istore_n 3, []) := rfl
theorem s_3_3 {d : Nat} {σ : xS} {st : List Value} {Q : xR → xS → Prop} {l0 l1 l2 l3 l4 l5 l6 : Option Value} {x : Int32} : G d 3 3 [l0, l1, l2, l3, l4, l5, l6] (.int x :: st) σ Q ↔ G d 3 4 [l0, l1, ykl l2, some (.int x), l4, l5, l6] st σ Q := by
  cases l2 with
  | none => exact gs_go f_3_3 rfl
  | some v => cases v <;> exact gs_go f_3_3 rfl
theorem f_3_4 : ft 3 4 = some (4, .iload_n 3, []) := rfl
theorem s_3_4 {d : Nat} {σ : xS} {st : List Value} {Q : xR → xS → Prop} {l0 l1 l2 l4 l5 l6 : Option Value} {x : Int32} : G d 3 4 [l0, l1, l2, some (.int x), l4, l5, l6] st σ Q ↔ G d 3 5 [l0, l1, l2, some (.int x), l4, l5, l6] (.int x :: st) σ Q := gs_go f_3_4 rfl
theorem f_3_5 : ft 3 5 = some (5, .aload_n 0, []) := rfl
theorem s_3_5 {d : Nat} {σ : xS} {st : List Value} {Q : xR → xS → Prop} {l1 l2 l3 l4 l5 l6 : Option Value} {x : Nat} : G d 3 5 [some (.ref x), l1, l2, l3, l4, l5, l6] st σ Q ↔ G d 3 6 [some (.ref x), l1, l2, l3, l4, l5, l6] (.ref x :: st) σ Q := gs_go f_3_5 rfl
theorem f_3_6 : ft 3 6 = some (6, .getfield 18, [0, 2, 0, 117]) := rfl
theorem s_3_6 {d : Nat} {t : yT} {st : List Value} {Q : xR → xS → Prop} {l0 l1 l2 l3 l4 l5 l6 : Option Value} {a : Nat} (ho : yisO 0 a) : G d 3 6 [l0, l1, l2, l3, l4, l5, l6] (.ref a :: st) (yemb t) Q ↔ G d 3 7 [l0, l1, l2, l3, l4, l5, l6] (.ref (t.R a) :: st) (yemb t) Q := gs_getf (c := 0) (j := 2) (q := .m) f_3_6 ho rfl
theorem f_3_7 : ft 3 7 = some (9, .arraylength, []) := rfl
theorem f_3_8 : ft 3 8 = some (10, .if_icmp .ge 120, [70]) := rfl
theorem s_3_8 {d : Nat} {σ : xS} {st : List Value} {Q : xR → xS → Prop} {l0 l1 l2 l3 l4 l5 l6 : Option Value} {x y : Int32} : G d 3 8 [l0, l1, l2, l3, l4, l5, l6] (.int y :: .int x :: st) σ Q ↔ if y ≤ x then G d 3 70 [l0, l1, l2, l3, l4, l5, l6] st σ Q else G d 3 9 [l0, l1, l2, l3, l4, l5, l6] st σ Q := gs_if f_3_8 rfl
theorem f_3_9 : ft 3 9 = some (13, .aload_n 0, []) := rfl
theorem s_3_9 {d : Nat} {σ : xS} {st : List Value} {Q : xR → xS → Prop} {l1 l2 l3 l4 l5 l6 : Option Value} {x : Nat} : G d 3 9 [some (.ref x), l1, l2, l3, l4, l5, l6] st σ Q ↔ G d 3 10 [some (.ref x), l1, l2, l3, l4, l5, l6] (.ref x :: st) σ Q := gs_go f_3_9 rfl
theorem f_3_10 : ft 3 10 = some (14, .getfield 18, [0, 2, 0, 117]) := rfl
theorem s_3_10 {d : Nat} {t : yT} {st : List Value} {Q : xR → xS → Prop} {l0 l1 l2 l3 l4 l5 l6 : Option Value} {a : Nat} (ho : yisO 0 a) : G d 3 10 [l0, l1, l2, l3, l4, l5, l6] (.ref a :: st) (yemb t) Q ↔ G d 3 11 [l0, l1, l2, l3, l4, l5, l6] (.ref (t.R a) :: st) (yemb t) Q := gs_getf (c := 0) (j := 2) (q := .m) f_3_10 ho rfl
theorem f_3_11 : ft 3 11 = some (17, .iload_n 3, []) := rfl
theorem s_3_11 {d : Nat} {σ : xS} {st : List Value} {Q : xR → xS → Prop} {l0 l1 l2 l4 l5 l6 : Option Value} {x : Int32} : G d 3 11 [l0, l1, l2, some (.int x), l4, l5, l6] st σ Q ↔ G d 3 12 [l0, l1, l2, some (.int x), l4, l5, l6] (.int x :: st) σ Q := gs_go f_3_11 rfl
theorem f_3_12 : ft 3 12 = some (18, .iaload, []) := rfl
theorem s_3_12 {d : Nat} {t : yT} {st : List Value} {Q : xR → xS → Prop} {l0 l1 l2 l3 l4 l5 l6 : Option Value} {a : Nat} {x : Int32} (ha : yA 0 a) : G d 3 12 [l0, l1, l2, l3, l4, l5, l6] (.int x :: .ref a :: st) (yemb t) Q ↔ yix x (yn a) ∧ G d 3 13 [l0, l1, l2, l3, l4, l5, l6] (.int (t.A a x.toNatClampNeg) :: st) (yemb t) Q := gs_iald f_3_12 ha
theorem f_3_13 : ft 3 13 = some (19, .istore 4, []) := rfl
theorem s_3_13 {d : Nat} {σ : xS} {st : List Value} {Q : xR → xS → Prop} {l0 l1 l2 l3 l4 l5 l6 : Option Value} {x : Int32} : G d 3 13 [l0, l1, l2, l3, l4, l5, l6] (.int x :: st) σ Q ↔ G d 3 14 [l0, l1, l2, ykl l3, some (.int x), l5, l6] st σ Q := by
  cases l3 with
  | none => exact gs_go f_3_13 rfl
  | some v => cases v <;> exact gs_go f_3_13 rfl
theorem f_3_14 : ft 3 14 = some (21, .iload 4, []) := rfl
theorem s_3_14 {d : Nat} {σ : xS} {st : List Value} {Q : xR → xS → Prop} {l0 l1 l2 l3 l5 l6 : Option Value} {x : Int32} : G d 3 14 [l0, l1, l2, l3, some (.int x), l5, l6] st σ Q ↔ G d 3 15 [l0, l1, l2, l3, some (.int x), l5, l6] (.int x :: st) σ Q := gs_go f_3_14 rfl
theorem f_3_15 : ft 3 15 = some (23, .bipush (-2), []) := rfl
theorem s_3_15 {d : Nat} {σ : xS} {st : List Value} {Q : xR → xS → Prop} {l0 l1 l2 l3 l4 l5 l6 : Option Value} : G d 3 15 [l0, l1, l2, l3, l4, l5, l6] st σ Q ↔ G d 3 16 [l0, l1, l2, l3, l4, l5, l6] (.int (-2) :: st) σ Q := gs_go f_3_15 rfl
theorem f_3_16 : ft 3 16 = some (25, .if_icmp .lt 45, [37]) := rfl
theorem s_3_16 {d : Nat} {σ : xS} {st : List Value} {Q : xR → xS → Prop} {l0 l1 l2 l3 l4 l5 l6 : Option Value} {x y : Int32} : G d 3 16 [l0, l1, l2, l3, l4, l5, l6] (.int y :: .int x :: st) σ Q ↔ if x < y then G d 3 37 [l0, l1, l2, l3, l4, l5, l6] st σ Q else G d 3 17 [l0, l1, l2, l3, l4, l5, l6] st σ Q := gs_if f_3_16 rfl
theorem f_3_17 : ft 3 17 = some (28, .iload_n 2, []) := rfl
theorem s_3_17 {d : Nat} {σ : xS} {st : List Value} {Q : xR → xS → Prop} {l0 l1 l3 l4 l5 l6 : Option Value} {x : Int32} : G d 3 17 [l0, l1, some (.int x), l3, l4, l5, l6] st σ Q ↔ G d 3 18 [l0, l1, some (.int x), l3, l4, l5, l6] (.int x :: st) σ Q := gs_go f_3_17 rfl
theorem f_3_18 : ft 3 18 = some (29, .bipush 16, []) := rfl
theorem s_3_18 {d : Nat} {σ : xS} {st : List Value} {Q : xR → xS → Prop} {l0 l1 l2 l3 l4 l5 l6 : Option Value} : G d 3 18 [l0, l1, l2, l3, l4, l5, l6] st σ Q ↔ G d 3 19 [l0, l1, l2, l3, l4, l5, l6] (.int (16) :: st) σ Q := gs_go f_3_18 rfl
theorem f_3_19 : ft 3 19 = some (31, .if_icmp .ge 93, [68]) := rfl
theorem s_3_19 {d : Nat} {σ : xS} {st : List Value} {Q : xR → xS → Prop} {l0 l1 l2 l3 l4 l5 l6 : Option Value} {x y : Int32} : G d 3 19 [l0, l1, l2, l3, l4, l5, l6] (.int y :: .int x :: st) σ Q ↔ if y ≤ x then G d 3 68 [l0, l1, l2, l3, l4, l5, l6] st σ Q else G d 3 20 [l0, l1, l2, l3, l4, l5, l6] st σ Q := gs_if f_3_19 rfl
theorem f_3_20 : ft 3 20 = some (34, .aload_n 0, []) := rfl
theorem s_3_20 {d : Nat} {σ : xS} {st : List Value} {Q : xR → xS → Prop} {l1 l2 l3 l4 l5 l6 : Option Value} {x : Nat} : G d 3 20 [some (.ref x), l1, l2, l3, l4, l5, l6] st σ Q ↔ G d 3 21 [some (.ref x), l1, l2, l3, l4, l5, l6] (.ref x :: st) σ Q := gs_go f_3_20 rfl
theorem f_3_21 : ft 3 21 = some (35, .getfield 15, [0, 1, 0, 116]) := rfl
theorem s_3_21 {d : Nat} {t : yT} {st : List Value} {Q : xR → xS → Prop} {l0 l1 l2 l3 l4 l5 l6 : Option Value} {a : Nat} (ho : yisO 0 a) : G d 3 21 [l0, l1, l2, l3, l4, l5, l6] (.ref a :: st) (yemb t) Q ↔ G d 3 22 [l0, l1, l2, l3, l4, l5, l6] (.ref 5 :: st) (yemb t) Q := gs_getf (c := 0) (j := 1) (q := .c 5) f_3_21 ho rfl
theorem f_3_22 : ft 3 22 = some (38, .iload_n 2, []) := rfl
theorem s_3_22 {d : Nat} {σ : xS} {st : List Value} {Q : xR → xS → Prop} {l0 l1 l3 l4 l5 l6 : Option Value} {x : Int32} : G d 3 22 [l0, l1, some (.int x), l3, l4, l5, l6] st σ Q ↔ G d 3 23 [l0, l1, some (.int x), l3, l4, l5, l6] (.int x :: st) σ Q := gs_go f_3_22 rfl
theorem f_3_23 : ft 3 23 = some (39, .iload 4, []) := rfl
theorem s_3_23 {d : Nat} {σ : xS} {st : List Value} {Q : xR → xS → Prop} {l0 l1 l2 l3 l5 l6 : Option Value} {x : Int32} : G d 3 23 [l0, l1, l2, l3, some (.int x), l5, l6] st σ Q ↔ G d 3 24 [l0, l1, l2, l3, some (.int x), l5, l6] (.int x :: st) σ Q := gs_go f_3_23 rfl
theorem f_3_24 : ft 3 24 = some (41, .ifCond .lt 8, [27]) := rfl
theorem s_3_24 {d : Nat} {σ : xS} {st : List Value} {Q : xR → xS → Prop} {l0 l1 l2 l3 l4 l5 l6 : Option Value} {x : Int32} : G d 3 24 [l0, l1, l2, l3, l4, l5, l6] (.int x :: st) σ Q ↔ if x < 0 then G d 3 27 [l0, l1, l2, l3, l4, l5, l6] st σ Q else G d 3 25 [l0, l1, l2, l3, l4, l5, l6] st σ Q := gs_if f_3_24 rfl
theorem f_3_25 : ft 3 25 = some (44, .iload 4, []) := rfl
theorem s_3_25 {d : Nat} {σ : xS} {st : List Value} {Q : xR → xS → Prop} {l0 l1 l2 l3 l5 l6 : Option Value} {x : Int32} : G d 3 25 [l0, l1, l2, l3, some (.int x), l5, l6] st σ Q ↔ G d 3 26 [l0, l1, l2, l3, some (.int x), l5, l6] (.int x :: st) σ Q := gs_go f_3_25 rfl
theorem f_3_26 : ft 3 26 = some (46, .goto 17, [34]) := rfl
theorem s_3_26 {d : Nat} {σ : xS} {st : List Value} {Q : xR → xS → Prop} {l0 l1 l2 l3 l4 l5 l6 : Option Value} : G d 3 26 [l0, l1, l2, l3, l4, l5, l6] st σ Q ↔ G d 3 34 [l0, l1, l2, l3, l4, l5, l6] st σ Q := gs_go f_3_26 rfl
theorem f_3_27 : ft 3 27 = some (49, .iload 4, []) := rfl
theorem s_3_27 {d : Nat} {σ : xS} {st : List Value} {Q : xR → xS → Prop} {l0 l1 l2 l3 l5 l6 : Option Value} {x : Int32} : G d 3 27 [l0, l1, l2, l3, some (.int x), l5, l6] st σ Q ↔ G d 3 28 [l0, l1, l2, l3, some (.int x), l5, l6] (.int x :: st) σ Q := gs_go f_3_27 rfl
theorem f_3_28 : ft 3 28 = some (51, .iconst (-1), []) := rfl
theorem s_3_28 {d : Nat} {σ : xS} {st : List Value} {Q : xR → xS → Prop} {l0 l1 l2 l3 l4 l5 l6 : Option Value} : G d 3 28 [l0, l1, l2, l3, l4, l5, l6] st σ Q ↔ G d 3 29 [l0, l1, l2, l3, l4, l5, l6] (.int (-1) :: st) σ Q := gs_go f_3_28 rfl
theorem f_3_29 : ft 3 29 = some (52, .if_icmp .ne 7, [32]) := rfl
theorem s_3_29 {d : Nat} {σ : xS} {st : List Value} {Q : xR → xS → Prop} {l0 l1 l2 l3 l4 l5 l6 : Option Value} {x y : Int32} : G d 3 29 [l0, l1, l2, l3, l4, l5, l6] (.int y :: .int x :: st) σ Q ↔ if x ≠ y then G d 3 32 [l0, l1, l2, l3, l4, l5, l6] st σ Q else G d 3 30 [l0, l1, l2, l3, l4, l5, l6] st σ Q := gs_if f_3_29 rfl
theorem f_3_30 : ft 3 30 = some (55, .iload_n 1, []) := rfl
theorem s_3_30 {d : Nat} {σ : xS} {st : List Value} {Q : xR → xS → Prop} {l0 l2 l3 l4 l5 l6 : Option Value} {x : Int32} : G d 3 30 [l0, some (.int x), l2, l3, l4, l5, l6] st σ Q ↔ G d 3 31 [l0, some (.int x), l2, l3, l4, l5, l6] (.int x :: st) σ Q := gs_go f_3_30 rfl
theorem f_3_31 : ft 3 31 = some (56, .goto 7, [34]) := rfl
theorem s_3_31 {d : Nat} {σ : xS} {st : List Value} {Q : xR → xS → Prop} {l0 l1 l2 l3 l4 l5 l6 : Option Value} : G d 3 31 [l0, l1, l2, l3, l4, l5, l6] st σ Q ↔ G d 3 34 [l0, l1, l2, l3, l4, l5, l6] st σ Q := gs_go f_3_31 rfl
theorem f_3_32 : ft 3 32 = some (59, .aload_n 0, []) := rfl
theorem s_3_32 {d : Nat} {σ : xS} {st : List Value} {Q : xR → xS → Prop} {l1 l2 l3 l4 l5 l6 : Option Value} {x : Nat} : G d 3 32 [some (.ref x), l1, l2, l3, l4, l5, l6] st σ Q ↔ G d 3 33 [some (.ref x), l1, l2, l3, l4, l5, l6] (.ref x :: st) σ Q := gs_go f_3_32 rfl
theorem f_3_33 : ft 3 33 = some (60, .getfield 21, [0, 3, 0, 118]) := rfl
theorem s_3_33 {d : Nat} {t : yT} {st : List Value} {Q : xR → xS → Prop} {l0 l1 l2 l3 l4 l5 l6 : Option Value} {a : Nat} (ho : yisO 0 a) : G d 3 33 [l0, l1, l2, l3, l4, l5, l6] (.ref a :: st) (yemb t) Q ↔ G d 3 34 [l0, l1, l2, l3, l4, l5, l6] (.int (t.A a 3) :: st) (yemb t) Q := gs_getf (c := 0) (j := 3) (q := .i) f_3_33 ho rfl
theorem f_3_34 : ft 3 34 = some (63, .iastore, []) := rfl
theorem s_3_34 {d : Nat} {t : yT} {st : List Value} {Q : xR → xS → Prop} {l0 l1 l2 l3 l4 l5 l6 : Option Value} {a : Nat} {x v : Int32} (ha : yA 0 a) : G d 3 34 [l0, l1, l2, l3, l4, l5, l6] (.int v :: .int x :: .ref a :: st) (yemb t) Q ↔ yix x (yn a) ∧ G d 3 35 [l0, l1, l2, l3, l4, l5, l6] st (yemb (t.s1 a x.toNatClampNeg v)) Q := gs_iast f_3_34 ha
theorem f_3_35 : ft 3 35 = some (64, .iinc 2 1, []) := rfl
theorem s_3_35 {d : Nat} {σ : xS} {st : List Value} {Q : xR → xS → Prop} {l0 l1 l3 l4 l5 l6 : Option Value} {x : Int32} : G d 3 35 [l0, l1, some (.int x), l3, l4, l5, l6] st σ Q ↔ G d 3 36 [l0, ykl l1, some (.int (x + 1)), l3, l4, l5, l6] st σ Q := by
  cases l1 with
  | none => exact gs_go f_3_35 rfl
  | some v => cases v <;> exact gs_go f_3_35 rfl
theorem f_3_36 : ft 3 36 = some (67, .goto 57, [68]) := rfl
theorem s_3_36 {d : Nat} {σ : xS} {st : List Value} {Q : xR → xS → Prop} {l0 l1 l2 l3 l4 l5 l6 : Option Value} : G d 3 36 [l0, l1, l2, l3, l4, l5, l6] st σ Q ↔ G d 3 68 [l0, l1, l2, l3, l4, l5, l6] st σ Q := gs_go f_3_36 rfl
theorem f_3_37 : ft 3 37 = some (70, .iload_n 2, []) := rfl
theorem s_3_37 {d : Nat} {σ : xS} {st : List Value} {Q : xR → xS → Prop} {l0 l1 l3 l4 l5 l6 : Option Value} {x : Int32} : G d 3 37 [l0, l1, some (.int x), l3, l4, l5, l6] st σ Q ↔ G d 3 38 [l0, l1, some (.int x), l3, l4, l5, l6] (.int x :: st) σ Q := gs_go f_3_37 rfl
theorem f_3_38 : ft 3 38 = some (71, .iconst 2, []) := rfl
theorem s_3_38 {d : Nat} {σ : xS} {st : List Value} {Q : xR → xS → Prop} {l0 l1 l2 l3 l4 l5 l6 : Option Value} : G d 3 38 [l0, l1, l2, l3, l4, l5, l6] st σ Q ↔ G d 3 39 [l0, l1, l2, l3, l4, l5, l6] (.int (2) :: st) σ Q := gs_go f_3_38 rfl
theorem f_3_39 : ft 3 39 = some (72, .if_icmp .lt 52, [68]) := rfl
theorem s_3_39 {d : Nat} {σ : xS} {st : List Value} {Q : xR → xS → Prop} {l0 l1 l2 l3 l4 l5 l6 : Option Value} {x y : Int32} : G d 3 39 [l0, l1, l2, l3, l4, l5, l6] (.int y :: .int x :: st) σ Q ↔ if x < y then G d 3 68 [l0, l1, l2, l3, l4, l5, l6] st σ Q else G d 3 40 [l0, l1, l2, l3, l4, l5, l6] st σ Q := gs_if f_3_39 rfl
theorem f_3_40 : ft 3 40 = some (75, .iinc 2 (-1), []) := rfl
theorem s_3_40 {d : Nat} {σ : xS} {st : List Value} {Q : xR → xS → Prop} {l0 l1 l3 l4 l5 l6 : Option Value} {x : Int32} : G d 3 40 [l0, l1, some (.int x), l3, l4, l5, l6] st σ Q ↔ G d 3 41 [l0, ykl l1, some (.int (x + (-1))), l3, l4, l5, l6] st σ Q := by
  cases l1 with
  | none => exact gs_go f_3_40 rfl
  | some v => cases v <;> exact gs_go f_3_40 rfl
theorem f_3_41 : ft 3 41 = some (78, .iload 4, []) := rfl
theorem s_3_41 {d : Nat} {σ : xS} {st : List Value} {Q : xR → xS → Prop} {l0 l1 l2 l3 l5 l6 : Option Value} {x : Int32} : G d 3 41 [l0, l1, l2, l3, some (.int x), l5, l6] st σ Q ↔ G d 3 42 [l0, l1, l2, l3, some (.int x), l5, l6] (.int x :: st) σ Q := gs_go f_3_41 rfl
theorem f_3_42 : ft 3 42 = some (80, .aload_n 0, []) := rfl
theorem s_3_42 {d : Nat} {σ : xS} {st : List Value} {Q : xR → xS → Prop} {l1 l2 l3 l4 l5 l6 : Option Value} {x : Nat} : G d 3 42 [some (.ref x), l1, l2, l3, l4, l5, l6] st σ Q ↔ G d 3 43 [some (.ref x), l1, l2, l3, l4, l5, l6] (.ref x :: st) σ Q := gs_go f_3_42 rfl
theorem f_3_43 : ft 3 43 = some (81, .getfield 15, [0, 1, 0, 116]) := rfl
theorem s_3_43 {d : Nat} {t : yT} {st : List Value} {Q : xR → xS → Prop} {l0 l1 l2 l3 l4 l5 l6 : Option Value} {a : Nat} (ho : yisO 0 a) : G d 3 43 [l0, l1, l2, l3, l4, l5, l6] (.ref a :: st) (yemb t) Q ↔ G d 3 44 [l0, l1, l2, l3, l4, l5, l6] (.ref 5 :: st) (yemb t) Q := gs_getf (c := 0) (j := 1) (q := .c 5) f_3_43 ho rfl
theorem f_3_44 : ft 3 44 = some (84, .iload_n 2, []) := rfl
theorem s_3_44 {d : Nat} {σ : xS} {st : List Value} {Q : xR → xS → Prop} {l0 l1 l3 l4 l5 l6 : Option Value} {x : Int32} : G d 3 44 [l0, l1, some (.int x), l3, l4, l5, l6] st σ Q ↔ G d 3 45 [l0, l1, some (.int x), l3, l4, l5, l6] (.int x :: st) σ Q := gs_go f_3_44 rfl
theorem f_3_45 : ft 3 45 = some (85, .iconst 1, []) := rfl
theorem s_3_45 {d : Nat} {σ : xS} {st : List Value} {Q : xR → xS → Prop} {l0 l1 l2 l3 l4 l5 l6 : Option Value} : G d 3 45 [l0, l1, l2, l3, l4, l5, l6] st σ Q ↔ G d 3 46 [l0, l1, l2, l3, l4, l5, l6] (.int (1) :: st) σ Q := gs_go f_3_45 rfl
theorem f_3_46 : ft 3 46 = some (86, .isub, []) := rfl
theorem s_3_46 {d : Nat} {σ : xS} {st : List Value} {Q : xR → xS → Prop} {l0 l1 l2 l3 l4 l5 l6 : Option Value} {x y : Int32} : G d 3 46 [l0, l1, l2, l3, l4, l5, l6] (.int y :: .int x :: st) σ Q ↔ G d 3 47 [l0, l1, l2, l3, l4, l5, l6] (.int (x - y) :: st) σ Q := gs_go f_3_46 rfl
theorem f_3_47 : ft 3 47 = some (87, .iaload, []) := rfl
theorem s_3_47 {d : Nat} {t : yT} {st : List Value} {Q : xR → xS → Prop} {l0 l1 l2 l3 l4 l5 l6 : Option Value} {a : Nat} {x : Int32} (ha : yA 0 a) : G d 3 47 [l0, l1, l2, l3, l4, l5, l6] (.int x :: .ref a :: st) (yemb t) Q ↔ yix x (yn a) ∧ G d 3 48 [l0, l1, l2, l3, l4, l5, l6] (.int (t.A a x.toNatClampNeg) :: st) (yemb t) Q := gs_iald f_3_47 ha
theorem f_3_48 : ft 3 48 = some (88, .i2l, []) := rfl
theorem s_3_48 {d : Nat} {σ : xS} {st : List Value} {Q : xR → xS → Prop} {l0 l1 l2 l3 l4 l5 l6 : Option Value} {x : Int32} : G d 3 48 [l0, l1, l2, l3, l4, l5, l6] (.int x :: st) σ Q ↔ G d 3 49 [l0, l1, l2, l3, l4, l5, l6] (.long x.toInt64 :: st) σ Q := gs_go f_3_48 rfl
theorem f_3_49 : ft 3 49 = some (89, .aload_n 0, []) := rfl
theorem s_3_49 {d : Nat} {σ : xS} {st : List Value} {Q : xR → xS → Prop} {l1 l2 l3 l4 l5 l6 : Option Value} {x : Nat} : G d 3 49 [some (.ref x), l1, l2, l3, l4, l5, l6] st σ Q ↔ G d 3 50 [some (.ref x), l1, l2, l3, l4, l5, l6] (.ref x :: st) σ Q := gs_go f_3_49 rfl
theorem f_3_50 : ft 3 50 = some (90, .getfield 15, [0, 1, 0, 116]) := rfl
theorem s_3_50 {d : Nat} {t : yT} {st : List Value} {Q : xR → xS → Prop} {l0 l1 l2 l3 l4 l5 l6 : Option Value} {a : Nat} (ho : yisO 0 a) : G d 3 50 [l0, l1, l2, l3, l4, l5, l6] (.ref a :: st) (yemb t) Q ↔ G d 3 51 [l0, l1, l2, l3, l4, l5, l6] (.ref 5 :: st) (yemb t) Q := gs_getf (c := 0) (j := 1) (q := .c 5) f_3_50 ho rfl
theorem f_3_51 : ft 3 51 = some (93, .iload_n 2, []) := rfl
theorem s_3_51 {d : Nat} {σ : xS} {st : List Value} {Q : xR → xS → Prop} {l0 l1 l3 l4 l5 l6 : Option Value} {x : Int32} : G d 3 51 [l0, l1, some (.int x), l3, l4, l5, l6] st σ Q ↔ G d 3 52 [l0, l1, some (.int x), l3, l4, l5, l6] (.int x :: st) σ Q := gs_go f_3_51 rfl
theorem f_3_52 : ft 3 52 = some (94, .iaload, []) := rfl
theorem s_3_52 {d : Nat} {t : yT} {st : List Value} {Q : xR → xS → Prop} {l0 l1 l2 l3 l4 l5 l6 : Option Value} {a : Nat} {x : Int32} (ha : yA 0 a) : G d 3 52 [l0, l1, l2, l3, l4, l5, l6] (.int x :: .ref a :: st) (yemb t) Q ↔ yix x (yn a) ∧ G d 3 53 [l0, l1, l2, l3, l4, l5, l6] (.int (t.A a x.toNatClampNeg) :: st) (yemb t) Q := gs_iald f_3_52 ha
theorem f_3_53 : ft 3 53 = some (95, .i2l, []) := rfl
theorem s_3_53 {d : Nat} {σ : xS} {st : List Value} {Q : xR → xS → Prop} {l0 l1 l2 l3 l4 l5 l6 : Option Value} {x : Int32} : G d 3 53 [l0, l1, l2, l3, l4, l5, l6] (.int x :: st) σ Q ↔ G d 3 54 [l0, l1, l2, l3, l4, l5, l6] (.long x.toInt64 :: st) σ Q := gs_go f_3_53 rfl
theorem f_3_54 : ft 3 54 = some (96, .invokestatic 46, [4, 3, 1, 999]) := rfl
theorem s_3_54 {d : Nat} {σ : xS} {st : List Value} {Q : xR → xS → Prop} {l0 l1 l2 l3 l4 l5 l6 : Option Value} {a0 : Int32} {a1 : Int64} {a2 : Int64} : G (d + 1) 3 54 [l0, l1, l2, l3, l4, l5, l6] (.long a2 :: .long a1 :: .int a0 :: st) σ Q ↔ xcat st ≤ 8 ∧ Cl d 4 [.int a0, .long a1, .long a2] σ (Gk (d + 1) 3 54 [l0, l1, l2, l3, l4, l5, l6] st Q) := gs_call f_3_54 ((xinv_call (i := 54) (n := 999) (ls := [l0, l1, l2, l3, l4, l5, l6]) (kind := 1) (σ := σ) (by decide)).trans (xcall_st [.long a2, .long a1, .int a0] rfl (by decide) (show (5 : Nat) ≤ 5 by decide)))
theorem f_3_55 : ft 3 55 = some (99, .lstore 5, []) := rfl
theorem s_3_55 {d : Nat} {σ : xS} {st : List Value} {Q : xR → xS → Prop} {l0 l1 l2 l3 l4 l5 l6 : Option Value} {x : Int64} : G d 3 55 [l0, l1, l2, l3, l4, l5, l6] (.long x :: st) σ Q ↔ G d 3 56 [l0, l1, l2, l3, ykl l4, some (.long x), none] st σ Q := by
  cases l4 with
  | none => exact gs_go f_3_55 rfl
  | some v => cases v <;> exact gs_go f_3_55 rfl
theorem f_3_56 : ft 3 56 = some (101, .aload_n 0, []) := rfl
theorem s_3_56 {d : Nat} {σ : xS} {st : List Value} {Q : xR → xS → Prop} {l1 l2 l3 l4 l5 l6 : Option Value} {x : Nat} : G d 3 56 [some (.ref x), l1, l2, l3, l4, l5, l6] st σ Q ↔ G d 3 57 [some (.ref x), l1, l2, l3, l4, l5, l6] (.ref x :: st) σ Q := gs_go f_3_56 rfl
theorem f_3_57 : ft 3 57 = some (102, .getfield 15, [0, 1, 0, 116]) := rfl
theorem s_3_57 {d : Nat} {t : yT} {st : List Value} {Q : xR → xS → Prop} {l0 l1 l2 l3 l4 l5 l6 : Option Value} {a : Nat} (ho : yisO 0 a) : G d 3 57 [l0, l1, l2, l3, l4, l5, l6] (.ref a :: st) (yemb t) Q ↔ G d 3 58 [l0, l1, l2, l3, l4, l5, l6] (.ref 5 :: st) (yemb t) Q := gs_getf (c := 0) (j := 1) (q := .c 5) f_3_57 ho rfl
theorem f_3_58 : ft 3 58 = some (105, .iload_n 2, []) := rfl
theorem s_3_58 {d : Nat} {σ : xS} {st : List Value} {Q : xR → xS → Prop} {l0 l1 l3 l4 l5 l6 : Option Value} {x : Int32} : G d 3 58 [l0, l1, some (.int x), l3, l4, l5, l6] st σ Q ↔ G d 3 59 [l0, l1, some (.int x), l3, l4, l5, l6] (.int x :: st) σ Q := gs_go f_3_58 rfl
theorem f_3_59 : ft 3 59 = some (106, .iconst 1, []) := rfl
theorem s_3_59 {d : Nat} {σ : xS} {st : List Value} {Q : xR → xS → Prop} {l0 l1 l2 l3 l4 l5 l6 : Option Value} : G d 3 59 [l0, l1, l2, l3, l4, l5, l6] st σ Q ↔ G d 3 60 [l0, l1, l2, l3, l4, l5, l6] (.int (1) :: st) σ Q := gs_go f_3_59 rfl
theorem f_3_60 : ft 3 60 = some (107, .isub, []) := rfl
theorem s_3_60 {d : Nat} {σ : xS} {st : List Value} {Q : xR → xS → Prop} {l0 l1 l2 l3 l4 l5 l6 : Option Value} {x y : Int32} : G d 3 60 [l0, l1, l2, l3, l4, l5, l6] (.int y :: .int x :: st) σ Q ↔ G d 3 61 [l0, l1, l2, l3, l4, l5, l6] (.int (x - y) :: st) σ Q := gs_go f_3_60 rfl
theorem f_3_61 : ft 3 61 = some (108, .ldc2_w 50, [(-1000000), 1002]) := rfl
theorem s_3_61 {d : Nat} {σ : xS} {st : List Value} {Q : xR → xS → Prop} {l0 l1 l2 l3 l4 l5 l6 : Option Value} : G d 3 61 [l0, l1, l2, l3, l4, l5, l6] st σ Q ↔ G d 3 62 [l0, l1, l2, l3, l4, l5, l6] (.long (-1000000) :: st) σ Q := gs_go f_3_61 rfl
theorem f_3_62 : ft 3 62 = some (111, .ldc2_w 52, [1000000, 1003]) := rfl
theorem s_3_62 {d : Nat} {σ : xS} {st : List Value} {Q : xR → xS → Prop} {l0 l1 l2 l3 l4 l5 l6 : Option Value} : G d 3 62 [l0, l1, l2, l3, l4, l5, l6] st σ Q ↔ G d 3 63 [l0, l1, l2, l3, l4, l5, l6] (.long (1000000) :: st) σ Q := gs_go f_3_62 rfl
theorem f_3_63 : ft 3 63 = some (114, .lload 5, []) := rfl
theorem s_3_63 {d : Nat} {σ : xS} {st : List Value} {Q : xR → xS → Prop} {l0 l1 l2 l3 l4 l6 : Option Value} {x : Int64} : G d 3 63 [l0, l1, l2, l3, l4, some (.long x), l6] st σ Q ↔ G d 3 64 [l0, l1, l2, l3, l4, some (.long x), l6] (.long x :: st) σ Q := gs_go f_3_63 rfl
theorem f_3_64 : ft 3 64 = some (116, .invokestatic 54, [0, 2, 27, 1004]) := rfl
theorem s_3_64 {d : Nat} {σ : xS} {st : List Value} {Q : xR → xS → Prop} {l0 l1 l2 l3 l4 l5 l6 : Option Value} {x y : Int64} (h : xcat st ≤ 8) : G d 3 64 [l0, l1, l2, l3, l4, l5, l6] (.long y :: .long x :: st) σ Q ↔ G d 3 65 [l0, l1, l2, l3, l4, l5, l6] (.long (if y < x then y else x) :: st) σ Q := gs_go f_3_64 (if_pos h)
theorem f_3_65 : ft 3 65 = some (119, .invokestatic 57, [0, 2, 26, 1005]) := rfl
theorem s_3_65 {d : Nat} {σ : xS} {st : List Value} {Q : xR → xS → Prop} {l0 l1 l2 l3 l4 l5 l6 : Option Value} {x y : Int64} (h : xcat st ≤ 8) : G d 3 65 [l0, l1, l2, l3, l4, l5, l6] (.long y :: .long x :: st) σ Q ↔ G d 3 66 [l0, l1, l2, l3, l4, l5, l6] (.long (if y < x then x else y) :: st) σ Q := gs_go f_3_65 (if_pos h)
theorem f_3_66 : ft 3 66 = some (122, .l2i, []) := rfl
theorem s_3_66 {d : Nat} {σ : xS} {st : List Value} {Q : xR → xS → Prop} {l0 l1 l2 l3 l4 l5 l6 : Option Value} {x : Int64} : G d 3 66 [l0, l1, l2, l3, l4, l5, l6] (.long x :: st) σ Q ↔ G d 3 67 [l0, l1, l2, l3, l4, l5, l6] (.int x.toInt32 :: st) σ Q := gs_go f_3_66 rfl
theorem f_3_67 : ft 3 67 = some (123, .iastore, []) := rfl
theorem s_3_67 {d : Nat} {t : yT} {st : List Value} {Q : xR → xS → Prop} {l0 l1 l2 l3 l4 l5 l6 : Option Value} {a : Nat} {x v : Int32} (ha : yA 0 a) : G d 3 67 [l0, l1, l2, l3, l4, l5, l6] (.int v :: .int x :: .ref a :: st) (yemb t) Q ↔ yix x (yn a) ∧ G d 3 68 [l0, l1, l2, l3, l4, l5, l6] st (yemb (t.s1 a x.toNatClampNeg v)) Q := gs_iast f_3_67 ha
theorem f_3_68 : ft 3 68 = some (124, .iinc 3 1, []) := rfl
theorem s_3_68 {d : Nat} {σ : xS} {st : List Value} {Q : xR → xS → Prop} {l0 l1 l2 l4 l5 l6 : Option Value} {x : Int32} : G d 3 68 [l0, l1, l2, some (.int x), l4, l5, l6] st σ Q ↔ G d 3 69 [l0, l1, ykl l2, some (.int (x + 1)), l4, l5, l6] st σ Q := by
  cases l2 with
  | none => exact gs_go f_3_68 rfl
  | some v => cases v <;> exact gs_go f_3_68 rfl
theorem f_3_69 : ft 3 69 = some (127, .goto (-123), [4]) := rfl
theorem s_3_69 {d : Nat} {σ : xS} {st : List Value} {Q : xR → xS → Prop} {l0 l1 l2 l3 l4 l5 l6 : Option Value} : G d 3 69 [l0, l1, l2, l3, l4, l5, l6] st σ Q ↔ G d 3 4 [l0, l1, l2, l3, l4, l5, l6] st σ Q := gs_go f_3_69 rfl
theorem f_3_70 : ft 3 70 = some (130, .iload_n 2, []) := rfl
theorem s_3_70 {d : Nat} {σ : xS} {st : List Value} {Q : xR → xS → Prop} {l0 l1 l3 l4 l5 l6 : Option Value} {x : Int32} : G d 3 70 [l0, l1, some (.int x), l3, l4, l5, l6] st σ Q ↔ G d 3 71 [l0, l1, some (.int x), l3, l4, l5, l6] (.int x :: st) σ Q := gs_go f_3_70 rfl
theorem f_3_71 : ft 3 71 = some (131, .ifCond .le 12, [77]) := rfl
theorem s_3_71 {d : Nat} {σ : xS} {st : List Value} {Q : xR → xS → Prop} {l0 l1 l2 l3 l4 l5 l6 : Option Value} {x : Int32} : G d 3 71 [l0, l1, l2, l3, l4, l5, l6] (.int x :: st) σ Q ↔ if x ≤ 0 then G d 3 77 [l0, l1, l2, l3, l4, l5, l6] st σ Q else G d 3 72 [l0, l1, l2, l3, l4, l5, l6] st σ Q := gs_if f_3_71 rfl
theorem f_3_72 : ft 3 72 = some (134, .aload_n 0, []) := rfl
theorem s_3_72 {d : Nat} {σ : xS} {st : List Value} {Q : xR → xS → Prop} {l1 l2 l3 l4 l5 l6 : Option Value} {x : Nat} : G d 3 72 [some (.ref x), l1, l2, l3, l4, l5, l6] st σ Q ↔ G d 3 73 [some (.ref x), l1, l2, l3, l4, l5, l6] (.ref x :: st) σ Q := gs_go f_3_72 rfl
theorem f_3_73 : ft 3 73 = some (135, .getfield 15, [0, 1, 0, 116]) := rfl
theorem s_3_73 {d : Nat} {t : yT} {st : List Value} {Q : xR → xS → Prop} {l0 l1 l2 l3 l4 l5 l6 : Option Value} {a : Nat} (ho : yisO 0 a) : G d 3 73 [l0, l1, l2, l3, l4, l5, l6] (.ref a :: st) (yemb t) Q ↔ G d 3 74 [l0, l1, l2, l3, l4, l5, l6] (.ref 5 :: st) (yemb t) Q := gs_getf (c := 0) (j := 1) (q := .c 5) f_3_73 ho rfl
theorem f_3_74 : ft 3 74 = some (138, .iconst 0, []) := rfl
theorem s_3_74 {d : Nat} {σ : xS} {st : List Value} {Q : xR → xS → Prop} {l0 l1 l2 l3 l4 l5 l6 : Option Value} : G d 3 74 [l0, l1, l2, l3, l4, l5, l6] st σ Q ↔ G d 3 75 [l0, l1, l2, l3, l4, l5, l6] (.int (0) :: st) σ Q := gs_go f_3_74 rfl
theorem f_3_75 : ft 3 75 = some (139, .iaload, []) := rfl
theorem s_3_75 {d : Nat} {t : yT} {st : List Value} {Q : xR → xS → Prop} {l0 l1 l2 l3 l4 l5 l6 : Option Value} {a : Nat} {x : Int32} (ha : yA 0 a) : G d 3 75 [l0, l1, l2, l3, l4, l5, l6] (.int x :: .ref a :: st) (yemb t) Q ↔ yix x (yn a) ∧ G d 3 76 [l0, l1, l2, l3, l4, l5, l6] (.int (t.A a x.toNatClampNeg) :: st) (yemb t) Q := gs_iald f_3_75 ha
theorem f_3_76 : ft 3 76 = some (140, .goto 4, [78]) := rfl
theorem s_3_76 {d : Nat} {σ : xS} {st : List Value} {Q : xR → xS → Prop} {l0 l1 l2 l3 l4 l5 l6 : Option Value} : G d 3 76 [l0, l1, l2, l3, l4, l5, l6] st σ Q ↔ G d 3 78 [l0, l1, l2, l3, l4, l5, l6] st σ Q := gs_go f_3_76 rfl
theorem f_3_77 : ft 3 77 = some (143, .iconst 0, []) := rfl
theorem s_3_77 {d : Nat} {σ : xS} {st : List Value} {Q : xR → xS → Prop} {l0 l1 l2 l3 l4 l5 l6 : Option Value} : G d 3 77 [l0, l1, l2, l3, l4, l5, l6] st σ Q ↔ G d 3 78 [l0, l1, l2, l3, l4, l5, l6] (.int (0) :: st) σ Q := gs_go f_3_77 rfl
theorem f_3_78 : ft 3 78 = some (144, .ireturn, []) := rfl
theorem s_3_78 {d : Nat} {σ : xS} {ls : xL} {Q : xR → xS → Prop} {x : Int32} : G d 3 78 ls [.int x] σ Q ↔ Q (.inl (some (.int x))) σ := gs_reti f_3_78 rfl
theorem f_4_0 : ft 4 0 = some (0, .iload_n 0, []) := rfl
theorem s_4_0 {d : Nat} {σ : xS} {st : List Value} {Q : xR → xS → Prop} {l1 l2 l3 l4 : Option Value} {x : Int32} : G d 4 0 [some (.int x), l1, l2, l3, l4] st σ Q ↔ G d 4 1 [some (.int x), l1, l2, l3, l4] (.int x :: st) σ Q := gs_go f_4_0 rfl
theorem f_4_1 : ft 4 1 = some (1, .tableswitch 39 (-5) (-3) #[35, 31, 27], [14, 10, 6, 2]) := rfl
theorem s_4_1_0 {d : Nat} {σ : xS} {st : List Value} {Q : xR → xS → Prop} {l0 l1 l2 l3 l4 : Option Value} : G d 4 1 [l0, l1, l2, l3, l4] (.int (-5) :: st) σ Q ↔ G d 4 10 [l0, l1, l2, l3, l4] st σ Q := gs_go f_4_1 rfl
theorem s_4_1_1 {d : Nat} {σ : xS} {st : List Value} {Q : xR → xS → Prop} {l0 l1 l2 l3 l4 : Option Value} : G d 4 1 [l0, l1, l2, l3, l4] (.int (-4) :: st) σ Q ↔ G d 4 6 [l0, l1, l2, l3, l4] st σ Q := gs_go f_4_1 rfl
theorem s_4_1_2 {d : Nat} {σ : xS} {st : List Value} {Q : xR → xS → Prop} {l0 l1 l2 l3 l4 : Option Value} : G d 4 1 [l0, l1, l2, l3, l4] (.int (-3) :: st) σ Q ↔ G d 4 2 [l0, l1, l2, l3, l4] st σ Q := gs_go f_4_1 rfl
theorem s_4_1_d {d : Nat} {σ : xS} {st : List Value} {Q : xR → xS → Prop} {l0 l1 l2 l3 l4 : Option Value} {x : Int32} (h : x.toInt < (-5) ∨ (-3) < x.toInt) : G d 4 1 [l0, l1, l2, l3, l4] (.int x :: st) σ Q ↔ G d 4 14 [l0, l1, l2, l3, l4] st σ Q := gs_go f_4_1 (if_pos h)
theorem f_4_2 : ft 4 2 = some (28, .lload_n 1, []) := rfl
theorem s_4_2 {d : Nat} {σ : xS} {st : List Value} {Q : xR → xS → Prop} {l0 l2 l3 l4 : Option Value} {x : Int64} : G d 4 2 [l0, some (.long x), l2, l3, l4] st σ Q ↔ G d 4 3 [l0, some (.long x), l2, l3, l4] (.long x :: st) σ Q := gs_go f_4_2 rfl
theorem f_4_3 : ft 4 3 = some (29, .lload_n 3, []) := rfl
theorem s_4_3 {d : Nat} {σ : xS} {st : List Value} {Q : xR → xS → Prop} {l0 l1 l2 l4 : Option Value} {x : Int64} : G d 4 3 [l0, l1, l2, some (.long x), l4] st σ Q ↔ G d 4 4 [l0, l1, l2, some (.long x), l4] (.long x :: st) σ Q := gs_go f_4_3 rfl
theorem f_4_4 : ft 4 4 = some (30, .ladd, []) := rfl
theorem s_4_4 {d : Nat} {σ : xS} {st : List Value} {Q : xR → xS → Prop} {l0 l1 l2 l3 l4 : Option Value} {x y : Int64} : G d 4 4 [l0, l1, l2, l3, l4] (.long y :: .long x :: st) σ Q ↔ G d 4 5 [l0, l1, l2, l3, l4] (.long (x + y) :: st) σ Q := gs_go f_4_4 rfl
theorem f_4_5 : ft 4 5 = some (31, .lreturn, []) := rfl
theorem s_4_5 {d : Nat} {σ : xS} {ls : xL} {Q : xR → xS → Prop} {x : Int64} : G d 4 5 ls [.long x] σ Q ↔ Q (.inl (some (.long x))) σ := gs_ret f_4_5 rfl
theorem f_4_6 : ft 4 6 = some (32, .lload_n 1, []) := rfl
theorem s_4_6 {d : Nat} {σ : xS} {st : List Value} {Q : xR → xS → Prop} {l0 l2 l3 l4 : Option Value} {x : Int64} : G d 4 6 [l0, some (.long x), l2, l3, l4] st σ Q ↔ G d 4 7 [l0, some (.long x), l2, l3, l4] (.long x :: st) σ Q := gs_go f_4_6 rfl
theorem f_4_7 : ft 4 7 = some (33, .lload_n 3, []) := rfl
theorem s_4_7 {d : Nat} {σ : xS} {st : List Value} {Q : xR → xS → Prop} {l0 l1 l2 l4 : Option Value} {x : Int64} : G d 4 7 [l0, l1, l2, some (.long x), l4] st σ Q ↔ G d 4 8 [l0, l1, l2, some (.long x), l4] (.long x :: st) σ Q := gs_go f_4_7 rfl
theorem f_4_8 : ft 4 8 = some (34, .lsub, []) := rfl
theorem s_4_8 {d : Nat} {σ : xS} {st : List Value} {Q : xR → xS → Prop} {l0 l1 l2 l3 l4 : Option Value} {x y : Int64} : G d 4 8 [l0, l1, l2, l3, l4] (.long y :: .long x :: st) σ Q ↔ G d 4 9 [l0, l1, l2, l3, l4] (.long (x - y) :: st) σ Q := gs_go f_4_8 rfl
theorem f_4_9 : ft 4 9 = some (35, .lreturn, []) := rfl
theorem s_4_9 {d : Nat} {σ : xS} {ls : xL} {Q : xR → xS → Prop} {x : Int64} : G d 4 9 ls [.long x] σ Q ↔ Q (.inl (some (.long x))) σ := gs_ret f_4_9 rfl
theorem f_4_10 : ft 4 10 = some (36, .lload_n 1, []) := rfl
theorem s_4_10 {d : Nat} {σ : xS} {st : List Value} {Q : xR → xS → Prop} {l0 l2 l3 l4 : Option Value} {x : Int64} : G d 4 10 [l0, some (.long x), l2, l3, l4] st σ Q ↔ G d 4 11 [l0, some (.long x), l2, l3, l4] (.long x :: st) σ Q := gs_go f_4_10 rfl
theorem f_4_11 : ft 4 11 = some (37, .lload_n 3, []) := rfl
theorem s_4_11 {d : Nat} {σ : xS} {st : List Value} {Q : xR → xS → Prop} {l0 l1 l2 l4 : Option Value} {x : Int64} : G d 4 11 [l0, l1, l2, some (.long x), l4] st σ Q ↔ G d 4 12 [l0, l1, l2, some (.long x), l4] (.long x :: st) σ Q := gs_go f_4_11 rfl
theorem f_4_12 : ft 4 12 = some (38, .lmul, []) := rfl
theorem s_4_12 {d : Nat} {σ : xS} {st : List Value} {Q : xR → xS → Prop} {l0 l1 l2 l3 l4 : Option Value} {x y : Int64} : G d 4 12 [l0, l1, l2, l3, l4] (.long y :: .long x :: st) σ Q ↔ G d 4 13 [l0, l1, l2, l3, l4] (.long (x * y) :: st) σ Q := gs_go f_4_12 rfl
theorem f_4_13 : ft 4 13 = some (39, .lreturn, []) := rfl
theorem s_4_13 {d : Nat} {σ : xS} {ls : xL} {Q : xR → xS → Prop} {x : Int64} : G d 4 13 ls [.long x] σ Q ↔ Q (.inl (some (.long x))) σ := gs_ret f_4_13 rfl
theorem f_4_14 : ft 4 14 = some (40, .lload_n 3, []) := rfl
theorem s_4_14 {d : Nat} {σ : xS} {st : List Value} {Q : xR → xS → Prop} {l0 l1 l2 l4 : Option Value} {x : Int64} : G d 4 14 [l0, l1, l2, some (.long x), l4] st σ Q ↔ G d 4 15 [l0, l1, l2, some (.long x), l4] (.long x :: st) σ Q := gs_go f_4_14 rfl
theorem f_4_15 : ft 4 15 = some (41, .lconst 0, []) := rfl
theorem s_4_15 {d : Nat} {σ : xS} {st : List Value} {Q : xR → xS → Prop} {l0 l1 l2 l3 l4 : Option Value} : G d 4 15 [l0, l1, l2, l3, l4] st σ Q ↔ G d 4 16 [l0, l1, l2, l3, l4] (.long (0) :: st) σ Q := gs_go f_4_15 rfl
theorem f_4_16 : ft 4 16 = some (42, .lcmp, []) := rfl
theorem s_4_16 {d : Nat} {σ : xS} {st : List Value} {Q : xR → xS → Prop} {l0 l1 l2 l3 l4 : Option Value} {x y : Int64} : G d 4 16 [l0, l1, l2, l3, l4] (.long y :: .long x :: st) σ Q ↔ G d 4 17 [l0, l1, l2, l3, l4] (.int (lg_cmp x y) :: st) σ Q := gs_go f_4_16 rfl
theorem f_4_17 : ft 4 17 = some (43, .ifCond .ne 7, [20]) := rfl
theorem s_4_17 {d : Nat} {σ : xS} {st : List Value} {Q : xR → xS → Prop} {l0 l1 l2 l3 l4 : Option Value} {x : Int32} : G d 4 17 [l0, l1, l2, l3, l4] (.int x :: st) σ Q ↔ if x ≠ 0 then G d 4 20 [l0, l1, l2, l3, l4] st σ Q else G d 4 18 [l0, l1, l2, l3, l4] st σ Q := gs_if f_4_17 rfl
theorem f_4_18 : ft 4 18 = some (46, .lconst 0, []) := rfl
theorem s_4_18 {d : Nat} {σ : xS} {st : List Value} {Q : xR → xS → Prop} {l0 l1 l2 l3 l4 : Option Value} : G d 4 18 [l0, l1, l2, l3, l4] st σ Q ↔ G d 4 19 [l0, l1, l2, l3, l4] (.long (0) :: st) σ Q := gs_go f_4_18 rfl
theorem f_4_19 : ft 4 19 = some (47, .goto 6, [23]) := rfl
theorem s_4_19 {d : Nat} {σ : xS} {st : List Value} {Q : xR → xS → Prop} {l0 l1 l2 l3 l4 : Option Value} : G d 4 19 [l0, l1, l2, l3, l4] st σ Q ↔ G d 4 23 [l0, l1, l2, l3, l4] st σ Q := gs_go f_4_19 rfl
theorem f_4_20 : ft 4 20 = some (50, .lload_n 1, []) := rfl
theorem s_4_20 {d : Nat} {σ : xS} {st : List Value} {Q : xR → xS → Prop} {l0 l2 l3 l4 : Option Value} {x : Int64} : G d 4 20 [l0, some (.long x), l2, l3, l4] st σ Q ↔ G d 4 21 [l0, some (.long x), l2, l3, l4] (.long x :: st) σ Q := gs_go f_4_20 rfl
theorem f_4_21 : ft 4 21 = some (51, .lload_n 3, []) := rfl
theorem s_4_21 {d : Nat} {σ : xS} {st : List Value} {Q : xR → xS → Prop} {l0 l1 l2 l4 : Option Value} {x : Int64} : G d 4 21 [l0, l1, l2, some (.long x), l4] st σ Q ↔ G d 4 22 [l0, l1, l2, some (.long x), l4] (.long x :: st) σ Q := gs_go f_4_21 rfl
theorem f_4_22 : ft 4 22 = some (52, .ldiv, []) := rfl
theorem s_4_22 {d : Nat} {σ : xS} {st : List Value} {Q : xR → xS → Prop} {l0 l1 l2 l3 l4 : Option Value} {x y : Int64} (h : ¬ y = 0) : G d 4 22 [l0, l1, l2, l3, l4] (.long y :: .long x :: st) σ Q ↔ G d 4 23 [l0, l1, l2, l3, l4] (.long (x / y) :: st) σ Q := gs_go f_4_22 (if_pos h)
theorem f_4_23 : ft 4 23 = some (53, .lreturn, []) := rfl
theorem s_4_23 {d : Nat} {σ : xS} {ls : xL} {Q : xR → xS → Prop} {x : Int64} : G d 4 23 ls [.long x] σ Q ↔ Q (.inl (some (.long x))) σ := gs_ret f_4_23 rfl
theorem f_5_0 : ft 5 0 = some (0, .aload_n 0, []) := rfl
theorem s_5_0 {d : Nat} {σ : xS} {st : List Value} {Q : xR → xS → Prop} {l1 : Option Value} {x : Nat} : G d 5 0 [some (.ref x), l1] st σ Q ↔ G d 5 1 [some (.ref x), l1] (.ref x :: st) σ Q := gs_go f_5_0 rfl
theorem f_5_1 : ft 5 1 = some (1, .invokespecial 3, [0, 1, 20, 302]) := rfl
theorem f_5_2 : ft 5 2 = some (4, .aload_n 0, []) := rfl
theorem s_5_2 {d : Nat} {σ : xS} {st : List Value} {Q : xR → xS → Prop} {l1 : Option Value} {x : Nat} : G d 5 2 [some (.ref x), l1] st σ Q ↔ G d 5 3 [some (.ref x), l1] (.ref x :: st) σ Q := gs_go f_5_2 rfl
theorem f_5_3 : ft 5 3 = some (5, .bipush 8, []) := rfl
theorem s_5_3 {d : Nat} {σ : xS} {st : List Value} {Q : xR → xS → Prop} {l0 l1 : Option Value} : G d 5 3 [l0, l1] st σ Q ↔ G d 5 4 [l0, l1] (.int (8) :: st) σ Q := gs_go f_5_3 rfl
theorem f_5_4 : ft 5 4 = some (7, .anewarray 9, [4, 303]) := rfl
theorem f_5_5 : ft 5 5 = some (10, .putfield 11, [1, 0, 0, 306]) := rfl
theorem f_5_6 : ft 5 6 = some (13, .aload_n 0, []) := rfl
theorem s_5_6 {d : Nat} {σ : xS} {st : List Value} {Q : xR → xS → Prop} {l1 : Option Value} {x : Nat} : G d 5 6 [some (.ref x), l1] st σ Q ↔ G d 5 7 [some (.ref x), l1] (.ref x :: st) σ Q := gs_go f_5_6 rfl
theorem f_5_7 : ft 5 7 = some (14, .iconst 0, []) := rfl
theorem s_5_7 {d : Nat} {σ : xS} {st : List Value} {Q : xR → xS → Prop} {l0 l1 : Option Value} : G d 5 7 [l0, l1] st σ Q ↔ G d 5 8 [l0, l1] (.int (0) :: st) σ Q := gs_go f_5_7 rfl
theorem f_5_8 : ft 5 8 = some (15, .putfield 17, [1, 1, 0, 307]) := rfl
theorem s_5_8 {d : Nat} {t : yT} {st : List Value} {Q : xR → xS → Prop} {l0 l1 : Option Value} {a : Nat} {x : Int32} (ho : yisO 1 a) : G d 5 8 [l0, l1] (.int x :: .ref a :: st) (yemb t) Q ↔ G d 5 9 [l0, l1] st (yemb (t.s1 a 1 x)) Q := gs_putI (c := 1) (j := 1) f_5_8 (fun _ => rfl) rfl rfl ho
theorem f_5_9 : ft 5 9 = some (18, .aload_n 0, []) := rfl
theorem s_5_9 {d : Nat} {σ : xS} {st : List Value} {Q : xR → xS → Prop} {l1 : Option Value} {x : Nat} : G d 5 9 [some (.ref x), l1] st σ Q ↔ G d 5 10 [some (.ref x), l1] (.ref x :: st) σ Q := gs_go f_5_9 rfl
theorem f_5_10 : ft 5 10 = some (19, .iconst 0, []) := rfl
theorem s_5_10 {d : Nat} {σ : xS} {st : List Value} {Q : xR → xS → Prop} {l0 l1 : Option Value} : G d 5 10 [l0, l1] st σ Q ↔ G d 5 11 [l0, l1] (.int (0) :: st) σ Q := gs_go f_5_10 rfl
theorem f_5_11 : ft 5 11 = some (20, .putfield 21, [1, 2, 0, 308]) := rfl
theorem s_5_11 {d : Nat} {t : yT} {st : List Value} {Q : xR → xS → Prop} {l0 l1 : Option Value} {a : Nat} {x : Int32} (ho : yisO 1 a) : G d 5 11 [l0, l1] (.int x :: .ref a :: st) (yemb t) Q ↔ G d 5 12 [l0, l1] st (yemb (t.s1 a 2 x)) Q := gs_putI (c := 1) (j := 2) f_5_11 (fun _ => rfl) rfl rfl ho
theorem f_5_12 : ft 5 12 = some (23, .iconst 0, []) := rfl
theorem s_5_12 {d : Nat} {σ : xS} {st : List Value} {Q : xR → xS → Prop} {l0 l1 : Option Value} : G d 5 12 [l0, l1] st σ Q ↔ G d 5 13 [l0, l1] (.int (0) :: st) σ Q := gs_go f_5_12 rfl
theorem f_5_13 : ft 5 13 = some (24, .istore_n 1, []) := rfl
theorem s_5_13 {d : Nat} {σ : xS} {st : List Value} {Q : xR → xS → Prop} {l0 l1 : Option Value} {x : Int32} : G d 5 13 [l0, l1] (.int x :: st) σ Q ↔ G d 5 14 [ykl l0, some (.int x)] st σ Q := by
  cases l0 with
  | none => exact gs_go f_5_13 rfl
  | some v => cases v <;> exact gs_go f_5_13 rfl
theorem f_5_14 : ft 5 14 = some (25, .iload_n 1, []) := rfl
theorem s_5_14 {d : Nat} {σ : xS} {st : List Value} {Q : xR → xS → Prop} {l0 : Option Value} {x : Int32} : G d 5 14 [l0, some (.int x)] st σ Q ↔ G d 5 15 [l0, some (.int x)] (.int x :: st) σ Q := gs_go f_5_14 rfl
theorem f_5_15 : ft 5 15 = some (26, .bipush 8, []) := rfl
theorem s_5_15 {d : Nat} {σ : xS} {st : List Value} {Q : xR → xS → Prop} {l0 l1 : Option Value} : G d 5 15 [l0, l1] st σ Q ↔ G d 5 16 [l0, l1] (.int (8) :: st) σ Q := gs_go f_5_15 rfl
theorem f_5_16 : ft 5 16 = some (28, .if_icmp .ge 22, [26]) := rfl
theorem s_5_16 {d : Nat} {σ : xS} {st : List Value} {Q : xR → xS → Prop} {l0 l1 : Option Value} {x y : Int32} : G d 5 16 [l0, l1] (.int y :: .int x :: st) σ Q ↔ if y ≤ x then G d 5 26 [l0, l1] st σ Q else G d 5 17 [l0, l1] st σ Q := gs_if f_5_16 rfl
theorem f_5_17 : ft 5 17 = some (31, .aload_n 0, []) := rfl
theorem s_5_17 {d : Nat} {σ : xS} {st : List Value} {Q : xR → xS → Prop} {l1 : Option Value} {x : Nat} : G d 5 17 [some (.ref x), l1] st σ Q ↔ G d 5 18 [some (.ref x), l1] (.ref x :: st) σ Q := gs_go f_5_17 rfl
theorem f_5_18 : ft 5 18 = some (32, .getfield 11, [1, 0, 0, 306]) := rfl
theorem s_5_18 {d : Nat} {t : yT} {st : List Value} {Q : xR → xS → Prop} {l0 l1 : Option Value} {a : Nat} (ho : yisO 1 a) : G d 5 18 [l0, l1] (.ref a :: st) (yemb t) Q ↔ G d 5 19 [l0, l1] (.ref 39 :: st) (yemb t) Q := gs_getf (c := 1) (j := 0) (q := .c 39) f_5_18 ho rfl
theorem f_5_19 : ft 5 19 = some (35, .iload_n 1, []) := rfl
theorem s_5_19 {d : Nat} {σ : xS} {st : List Value} {Q : xR → xS → Prop} {l0 : Option Value} {x : Int32} : G d 5 19 [l0, some (.int x)] st σ Q ↔ G d 5 20 [l0, some (.int x)] (.int x :: st) σ Q := gs_go f_5_19 rfl
theorem f_5_20 : ft 5 20 = some (36, .new 9, [0, 4, 303]) := rfl
theorem f_5_21 : ft 5 21 = some (39, .dup, []) := rfl
theorem s_5_21 {d : Nat} {σ : xS} {st : List Value} {Q : xR → xS → Prop} {l0 l1 : Option Value} {x : Nat} : G d 5 21 [l0, l1] (.ref x :: st) σ Q ↔ G d 5 22 [l0, l1] (.ref x :: .ref x :: st) σ Q := gs_go f_5_21 rfl
theorem s_5_21i {d : Nat} {σ : xS} {st : List Value} {Q : xR → xS → Prop} {l0 l1 : Option Value} {x : Int32} : G d 5 21 [l0, l1] (.int x :: st) σ Q ↔ G d 5 22 [l0, l1] (.int x :: .int x :: st) σ Q := gs_go f_5_21 rfl
theorem f_5_22 : ft 5 22 = some (40, .invokespecial 24, [29, 1, 2, 305]) := rfl
theorem s_5_22 {d : Nat} {t : yT} {st : List Value} {Q : xR → xS → Prop} {l0 l1 : Option Value} {a0 : Nat} (ho : yisO 4 a0) : G (d + 1) 5 22 [l0, l1] (.ref a0 :: st) (yemb t) Q ↔ xcat st ≤ 8 ∧ Cl d 29 [.ref a0] (yemb t) (Gk (d + 1) 5 22 [l0, l1] st Q) := gs_call f_5_22 ((xinv_call (i := 22) (n := 305) (ls := [l0, l1]) (kind := 2) (σ := yemb t) (by decide)).trans (xcall_vi [.ref a0] rfl rfl (show (1 : Nat) ≤ 1 by decide) rfl ho))
theorem f_5_23 : ft 5 23 = some (43, .aastore, []) := rfl
theorem f_5_24 : ft 5 24 = some (44, .iinc 1 1, []) := rfl
theorem s_5_24 {d : Nat} {σ : xS} {st : List Value} {Q : xR → xS → Prop} {l0 : Option Value} {x : Int32} : G d 5 24 [l0, some (.int x)] st σ Q ↔ G d 5 25 [ykl l0, some (.int (x + 1))] st σ Q := by
  cases l0 with
  | none => exact gs_go f_5_24 rfl
  | some v => cases v <;> exact gs_go f_5_24 rfl
theorem f_5_25 : ft 5 25 = some (47, .goto (-22), [14]) := rfl
theorem s_5_25 {d : Nat} {σ : xS} {st : List Value} {Q : xR → xS → Prop} {l0 l1 : Option Value} : G d 5 25 [l0, l1] st σ Q ↔ G d 5 14 [l0, l1] st σ Q := gs_go f_5_25 rfl
theorem f_5_26 : ft 5 26 = some (50, .return_, []) := rfl
theorem s_5_26 {d : Nat} {σ : xS} {ls : xL} {Q : xR → xS → Prop} : G d 5 26 ls [] σ Q ↔ Q (.inl none) σ := gs_ret f_5_26 rfl
theorem f_6_0 : ft 6 0 = some (0, .aload_n 0, []) := rfl
theorem s_6_0 {d : Nat} {σ : xS} {st : List Value} {Q : xR → xS → Prop} {l1 : Option Value} {x : Nat} : G d 6 0 [some (.ref x), l1] st σ Q ↔ G d 6 1 [some (.ref x), l1] (.ref x :: st) σ Q := gs_go f_6_0 rfl
theorem f_6_1 : ft 6 1 = some (1, .aload_n 0, []) := rfl
theorem s_6_1 {d : Nat} {σ : xS} {st : List Value} {Q : xR → xS → Prop} {l1 : Option Value} {x : Nat} : G d 6 1 [some (.ref x), l1] st σ Q ↔ G d 6 2 [some (.ref x), l1] (.ref x :: st) σ Q := gs_go f_6_1 rfl
theorem f_6_2 : ft 6 2 = some (2, .getfield 21, [1, 2, 0, 308]) := rfl
theorem s_6_2 {d : Nat} {t : yT} {st : List Value} {Q : xR → xS → Prop} {l0 l1 : Option Value} {a : Nat} (ho : yisO 1 a) : G d 6 2 [l0, l1] (.ref a :: st) (yemb t) Q ↔ G d 6 3 [l0, l1] (.int (t.A a 2) :: st) (yemb t) Q := gs_getf (c := 1) (j := 2) (q := .i) f_6_2 ho rfl
theorem f_6_3 : ft 6 3 = some (5, .iconst 1, []) := rfl
theorem s_6_3 {d : Nat} {σ : xS} {st : List Value} {Q : xR → xS → Prop} {l0 l1 : Option Value} : G d 6 3 [l0, l1] st σ Q ↔ G d 6 4 [l0, l1] (.int (1) :: st) σ Q := gs_go f_6_3 rfl
theorem f_6_4 : ft 6 4 = some (6, .iadd, []) := rfl
theorem s_6_4 {d : Nat} {σ : xS} {st : List Value} {Q : xR → xS → Prop} {l0 l1 : Option Value} {x y : Int32} : G d 6 4 [l0, l1] (.int y :: .int x :: st) σ Q ↔ G d 6 5 [l0, l1] (.int (x + y) :: st) σ Q := gs_go f_6_4 rfl
theorem f_6_5 : ft 6 5 = some (7, .bipush 8, []) := rfl
theorem s_6_5 {d : Nat} {σ : xS} {st : List Value} {Q : xR → xS → Prop} {l0 l1 : Option Value} : G d 6 5 [l0, l1] st σ Q ↔ G d 6 6 [l0, l1] (.int (8) :: st) σ Q := gs_go f_6_5 rfl
theorem f_6_6 : ft 6 6 = some (9, .irem, []) := rfl
theorem s_6_6 {d : Nat} {σ : xS} {st : List Value} {Q : xR → xS → Prop} {l0 l1 : Option Value} {x y : Int32} (h : ¬ y = 0) : G d 6 6 [l0, l1] (.int y :: .int x :: st) σ Q ↔ G d 6 7 [l0, l1] (.int (x - x / y * y) :: st) σ Q := gs_go f_6_6 (if_pos h)
theorem f_6_7 : ft 6 7 = some (10, .putfield 21, [1, 2, 0, 308]) := rfl
theorem s_6_7 {d : Nat} {t : yT} {st : List Value} {Q : xR → xS → Prop} {l0 l1 : Option Value} {a : Nat} {x : Int32} (ho : yisO 1 a) : G d 6 7 [l0, l1] (.int x :: .ref a :: st) (yemb t) Q ↔ G d 6 8 [l0, l1] st (yemb (t.s1 a 2 x)) Q := gs_putI (c := 1) (j := 2) f_6_7 (fun _ => rfl) rfl rfl ho
theorem f_6_8 : ft 6 8 = some (13, .aload_n 0, []) := rfl
theorem s_6_8 {d : Nat} {σ : xS} {st : List Value} {Q : xR → xS → Prop} {l1 : Option Value} {x : Nat} : G d 6 8 [some (.ref x), l1] st σ Q ↔ G d 6 9 [some (.ref x), l1] (.ref x :: st) σ Q := gs_go f_6_8 rfl
theorem f_6_9 : ft 6 9 = some (14, .getfield 11, [1, 0, 0, 306]) := rfl
theorem s_6_9 {d : Nat} {t : yT} {st : List Value} {Q : xR → xS → Prop} {l0 l1 : Option Value} {a : Nat} (ho : yisO 1 a) : G d 6 9 [l0, l1] (.ref a :: st) (yemb t) Q ↔ G d 6 10 [l0, l1] (.ref 39 :: st) (yemb t) Q := gs_getf (c := 1) (j := 0) (q := .c 39) f_6_9 ho rfl
theorem f_6_10 : ft 6 10 = some (17, .aload_n 0, []) := rfl
theorem s_6_10 {d : Nat} {σ : xS} {st : List Value} {Q : xR → xS → Prop} {l1 : Option Value} {x : Nat} : G d 6 10 [some (.ref x), l1] st σ Q ↔ G d 6 11 [some (.ref x), l1] (.ref x :: st) σ Q := gs_go f_6_10 rfl
theorem f_6_11 : ft 6 11 = some (18, .getfield 21, [1, 2, 0, 308]) := rfl
theorem s_6_11 {d : Nat} {t : yT} {st : List Value} {Q : xR → xS → Prop} {l0 l1 : Option Value} {a : Nat} (ho : yisO 1 a) : G d 6 11 [l0, l1] (.ref a :: st) (yemb t) Q ↔ G d 6 12 [l0, l1] (.int (t.A a 2) :: st) (yemb t) Q := gs_getf (c := 1) (j := 2) (q := .i) f_6_11 ho rfl
theorem f_6_12 : ft 6 12 = some (21, .aaload, []) := rfl
theorem f_6_13 : ft 6 13 = some (22, .aload_n 1, []) := rfl
theorem s_6_13 {d : Nat} {σ : xS} {st : List Value} {Q : xR → xS → Prop} {l0 : Option Value} {x : Nat} : G d 6 13 [l0, some (.ref x)] st σ Q ↔ G d 6 14 [l0, some (.ref x)] (.ref x :: st) σ Q := gs_go f_6_13 rfl
theorem f_6_14 : ft 6 14 = some (23, .invokevirtual 25, [31, 2, 0, 372]) := rfl
theorem s_6_14 {d : Nat} {t : yT} {st : List Value} {Q : xR → xS → Prop} {l0 l1 : Option Value} {a0 : Nat} {a1 : Nat} (ho : yisO 4 a0) : G (d + 1) 6 14 [l0, l1] (.ref a1 :: .ref a0 :: st) (yemb t) Q ↔ xcat st ≤ 8 ∧ Cl d 31 [.ref a0, .ref a1] (yemb t) (Gk (d + 1) 6 14 [l0, l1] st Q) := gs_call f_6_14 ((xinv_call (i := 14) (n := 372) (ls := [l0, l1]) (kind := 0) (σ := yemb t) (by decide)).trans (xcall_vi [.ref a1, .ref a0] rfl rfl (show (2 : Nat) ≤ 2 by decide) rfl ho))
theorem f_6_15 : ft 6 15 = some (26, .aload_n 0, []) := rfl
theorem s_6_15 {d : Nat} {σ : xS} {st : List Value} {Q : xR → xS → Prop} {l1 : Option Value} {x : Nat} : G d 6 15 [some (.ref x), l1] st σ Q ↔ G d 6 16 [some (.ref x), l1] (.ref x :: st) σ Q := gs_go f_6_15 rfl
theorem f_6_16 : ft 6 16 = some (27, .bipush 8, []) := rfl
theorem s_6_16 {d : Nat} {σ : xS} {st : List Value} {Q : xR → xS → Prop} {l0 l1 : Option Value} : G d 6 16 [l0, l1] st σ Q ↔ G d 6 17 [l0, l1] (.int (8) :: st) σ Q := gs_go f_6_16 rfl
theorem f_6_17 : ft 6 17 = some (29, .aload_n 0, []) := rfl
theorem s_6_17 {d : Nat} {σ : xS} {st : List Value} {Q : xR → xS → Prop} {l1 : Option Value} {x : Nat} : G d 6 17 [some (.ref x), l1] st σ Q ↔ G d 6 18 [some (.ref x), l1] (.ref x :: st) σ Q := gs_go f_6_17 rfl
theorem f_6_18 : ft 6 18 = some (30, .getfield 17, [1, 1, 0, 307]) := rfl
theorem s_6_18 {d : Nat} {t : yT} {st : List Value} {Q : xR → xS → Prop} {l0 l1 : Option Value} {a : Nat} (ho : yisO 1 a) : G d 6 18 [l0, l1] (.ref a :: st) (yemb t) Q ↔ G d 6 19 [l0, l1] (.int (t.A a 1) :: st) (yemb t) Q := gs_getf (c := 1) (j := 1) (q := .i) f_6_18 ho rfl
theorem f_6_19 : ft 6 19 = some (33, .iconst 1, []) := rfl
theorem s_6_19 {d : Nat} {σ : xS} {st : List Value} {Q : xR → xS → Prop} {l0 l1 : Option Value} : G d 6 19 [l0, l1] st σ Q ↔ G d 6 20 [l0, l1] (.int (1) :: st) σ Q := gs_go f_6_19 rfl
theorem f_6_20 : ft 6 20 = some (34, .iadd, []) := rfl
theorem s_6_20 {d : Nat} {σ : xS} {st : List Value} {Q : xR → xS → Prop} {l0 l1 : Option Value} {x y : Int32} : G d 6 20 [l0, l1] (.int y :: .int x :: st) σ Q ↔ G d 6 21 [l0, l1] (.int (x + y) :: st) σ Q := gs_go f_6_20 rfl
theorem f_6_21 : ft 6 21 = some (35, .invokestatic 29, [0, 2, 25, 895]) := rfl
theorem s_6_21 {d : Nat} {σ : xS} {st : List Value} {Q : xR → xS → Prop} {l0 l1 : Option Value} {x y : Int32} (h : xcat st ≤ 8) : G d 6 21 [l0, l1] (.int y :: .int x :: st) σ Q ↔ G d 6 22 [l0, l1] (.int (if y < x then y else x) :: st) σ Q := gs_go f_6_21 (if_pos h)
theorem f_6_22 : ft 6 22 = some (38, .putfield 17, [1, 1, 0, 307]) := rfl
theorem s_6_22 {d : Nat} {t : yT} {st : List Value} {Q : xR → xS → Prop} {l0 l1 : Option Value} {a : Nat} {x : Int32} (ho : yisO 1 a) : G d 6 22 [l0, l1] (.int x :: .ref a :: st) (yemb t) Q ↔ G d 6 23 [l0, l1] st (yemb (t.s1 a 1 x)) Q := gs_putI (c := 1) (j := 1) f_6_22 (fun _ => rfl) rfl rfl ho
theorem f_6_23 : ft 6 23 = some (41, .return_, []) := rfl
theorem s_6_23 {d : Nat} {σ : xS} {ls : xL} {Q : xR → xS → Prop} : G d 6 23 ls [] σ Q ↔ Q (.inl none) σ := gs_ret f_6_23 rfl
theorem f_7_0 : ft 7 0 = some (0, .aload_n 0, []) := rfl
theorem s_7_0 {d : Nat} {σ : xS} {st : List Value} {Q : xR → xS → Prop} {l1 : Option Value} {x : Nat} : G d 7 0 [some (.ref x), l1] st σ Q ↔ G d 7 1 [some (.ref x), l1] (.ref x :: st) σ Q := gs_go f_7_0 rfl
theorem f_7_1 : ft 7 1 = some (1, .getfield 17, [1, 1, 0, 307]) := rfl
theorem s_7_1 {d : Nat} {t : yT} {st : List Value} {Q : xR → xS → Prop} {l0 l1 : Option Value} {a : Nat} (ho : yisO 1 a) : G d 7 1 [l0, l1] (.ref a :: st) (yemb t) Q ↔ G d 7 2 [l0, l1] (.int (t.A a 1) :: st) (yemb t) Q := gs_getf (c := 1) (j := 1) (q := .i) f_7_1 ho rfl
theorem f_7_2 : ft 7 2 = some (4, .ifCond .ne 5, [5]) := rfl
theorem s_7_2 {d : Nat} {σ : xS} {st : List Value} {Q : xR → xS → Prop} {l0 l1 : Option Value} {x : Int32} : G d 7 2 [l0, l1] (.int x :: st) σ Q ↔ if x ≠ 0 then G d 7 5 [l0, l1] st σ Q else G d 7 3 [l0, l1] st σ Q := gs_if f_7_2 rfl
theorem f_7_3 : ft 7 3 = some (7, .iconst (-1), []) := rfl
theorem s_7_3 {d : Nat} {σ : xS} {st : List Value} {Q : xR → xS → Prop} {l0 l1 : Option Value} : G d 7 3 [l0, l1] st σ Q ↔ G d 7 4 [l0, l1] (.int (-1) :: st) σ Q := gs_go f_7_3 rfl
theorem f_7_4 : ft 7 4 = some (8, .ireturn, []) := rfl
theorem s_7_4 {d : Nat} {σ : xS} {ls : xL} {Q : xR → xS → Prop} {x : Int32} : G d 7 4 ls [.int x] σ Q ↔ Q (.inl (some (.int x))) σ := gs_reti f_7_4 rfl
theorem f_7_5 : ft 7 5 = some (9, .aload_n 1, []) := rfl
theorem s_7_5 {d : Nat} {σ : xS} {st : List Value} {Q : xR → xS → Prop} {l0 : Option Value} {x : Nat} : G d 7 5 [l0, some (.ref x)] st σ Q ↔ G d 7 6 [l0, some (.ref x)] (.ref x :: st) σ Q := gs_go f_7_5 rfl
theorem f_7_6 : ft 7 6 = some (10, .aload_n 0, []) := rfl
theorem s_7_6 {d : Nat} {σ : xS} {st : List Value} {Q : xR → xS → Prop} {l1 : Option Value} {x : Nat} : G d 7 6 [some (.ref x), l1] st σ Q ↔ G d 7 7 [some (.ref x), l1] (.ref x :: st) σ Q := gs_go f_7_6 rfl
theorem f_7_7 : ft 7 7 = some (11, .getfield 11, [1, 0, 0, 306]) := rfl
theorem s_7_7 {d : Nat} {t : yT} {st : List Value} {Q : xR → xS → Prop} {l0 l1 : Option Value} {a : Nat} (ho : yisO 1 a) : G d 7 7 [l0, l1] (.ref a :: st) (yemb t) Q ↔ G d 7 8 [l0, l1] (.ref 39 :: st) (yemb t) Q := gs_getf (c := 1) (j := 0) (q := .c 39) f_7_7 ho rfl
theorem f_7_8 : ft 7 8 = some (14, .aload_n 0, []) := rfl
theorem s_7_8 {d : Nat} {σ : xS} {st : List Value} {Q : xR → xS → Prop} {l1 : Option Value} {x : Nat} : G d 7 8 [some (.ref x), l1] st σ Q ↔ G d 7 9 [some (.ref x), l1] (.ref x :: st) σ Q := gs_go f_7_8 rfl
theorem f_7_9 : ft 7 9 = some (15, .getfield 21, [1, 2, 0, 308]) := rfl
theorem s_7_9 {d : Nat} {t : yT} {st : List Value} {Q : xR → xS → Prop} {l0 l1 : Option Value} {a : Nat} (ho : yisO 1 a) : G d 7 9 [l0, l1] (.ref a :: st) (yemb t) Q ↔ G d 7 10 [l0, l1] (.int (t.A a 2) :: st) (yemb t) Q := gs_getf (c := 1) (j := 2) (q := .i) f_7_9 ho rfl
theorem f_7_10 : ft 7 10 = some (18, .aaload, []) := rfl
theorem f_7_11 : ft 7 11 = some (19, .invokevirtual 25, [31, 2, 0, 372]) := rfl
theorem s_7_11 {d : Nat} {t : yT} {st : List Value} {Q : xR → xS → Prop} {l0 l1 : Option Value} {a0 : Nat} {a1 : Nat} (ho : yisO 4 a0) : G (d + 1) 7 11 [l0, l1] (.ref a1 :: .ref a0 :: st) (yemb t) Q ↔ xcat st ≤ 8 ∧ Cl d 31 [.ref a0, .ref a1] (yemb t) (Gk (d + 1) 7 11 [l0, l1] st Q) := gs_call f_7_11 ((xinv_call (i := 11) (n := 372) (ls := [l0, l1]) (kind := 0) (σ := yemb t) (by decide)).trans (xcall_vi [.ref a1, .ref a0] rfl rfl (show (2 : Nat) ≤ 2 by decide) rfl ho))
theorem f_7_12 : ft 7 12 = some (22, .aload_n 0, []) := rfl
theorem s_7_12 {d : Nat} {σ : xS} {st : List Value} {Q : xR → xS → Prop} {l1 : Option Value} {x : Nat} : G d 7 12 [some (.ref x), l1] st σ Q ↔ G d 7 13 [some (.ref x), l1] (.ref x :: st) σ Q := gs_go f_7_12 rfl
theorem f_7_13 : ft 7 13 = some (23, .aload_n 0, []) := rfl
theorem s_7_13 {d : Nat} {σ : xS} {st : List Value} {Q : xR → xS → Prop} {l1 : Option Value} {x : Nat} : G d 7 13 [some (.ref x), l1] st σ Q ↔ G d 7 14 [some (.ref x), l1] (.ref x :: st) σ Q := gs_go f_7_13 rfl
theorem f_7_14 : ft 7 14 = some (24, .getfield 21, [1, 2, 0, 308]) := rfl
theorem s_7_14 {d : Nat} {t : yT} {st : List Value} {Q : xR → xS → Prop} {l0 l1 : Option Value} {a : Nat} (ho : yisO 1 a) : G d 7 14 [l0, l1] (.ref a :: st) (yemb t) Q ↔ G d 7 15 [l0, l1] (.int (t.A a 2) :: st) (yemb t) Q := gs_getf (c := 1) (j := 2) (q := .i) f_7_14 ho rfl
theorem f_7_15 : ft 7 15 = some (27, .bipush 8, []) := rfl
theorem s_7_15 {d : Nat} {σ : xS} {st : List Value} {Q : xR → xS → Prop} {l0 l1 : Option Value} : G d 7 15 [l0, l1] st σ Q ↔ G d 7 16 [l0, l1] (.int (8) :: st) σ Q := gs_go f_7_15 rfl
theorem f_7_16 : ft 7 16 = some (29, .iadd, []) := rfl
theorem s_7_16 {d : Nat} {σ : xS} {st : List Value} {Q : xR → xS → Prop} {l0 l1 : Option Value} {x y : Int32} : G d 7 16 [l0, l1] (.int y :: .int x :: st) σ Q ↔ G d 7 17 [l0, l1] (.int (x + y) :: st) σ Q := gs_go f_7_16 rfl
theorem f_7_17 : ft 7 17 = some (30, .iconst 1, []) := rfl
theorem s_7_17 {d : Nat} {σ : xS} {st : List Value} {Q : xR → xS → Prop} {l0 l1 : Option Value} : G d 7 17 [l0, l1] st σ Q ↔ G d 7 18 [l0, l1] (.int (1) :: st) σ Q := gs_go f_7_17 rfl
theorem f_7_18 : ft 7 18 = some (31, .isub, []) := rfl
theorem s_7_18 {d : Nat} {σ : xS} {st : List Value} {Q : xR → xS → Prop} {l0 l1 : Option Value} {x y : Int32} : G d 7 18 [l0, l1] (.int y :: .int x :: st) σ Q ↔ G d 7 19 [l0, l1] (.int (x - y) :: st) σ Q := gs_go f_7_18 rfl
theorem f_7_19 : ft 7 19 = some (32, .bipush 8, []) := rfl
theorem s_7_19 {d : Nat} {σ : xS} {st : List Value} {Q : xR → xS → Prop} {l0 l1 : Option Value} : G d 7 19 [l0, l1] st σ Q ↔ G d 7 20 [l0, l1] (.int (8) :: st) σ Q := gs_go f_7_19 rfl
theorem f_7_20 : ft 7 20 = some (34, .irem, []) := rfl
theorem s_7_20 {d : Nat} {σ : xS} {st : List Value} {Q : xR → xS → Prop} {l0 l1 : Option Value} {x y : Int32} (h : ¬ y = 0) : G d 7 20 [l0, l1] (.int y :: .int x :: st) σ Q ↔ G d 7 21 [l0, l1] (.int (x - x / y * y) :: st) σ Q := gs_go f_7_20 (if_pos h)
theorem f_7_21 : ft 7 21 = some (35, .putfield 21, [1, 2, 0, 308]) := rfl
theorem s_7_21 {d : Nat} {t : yT} {st : List Value} {Q : xR → xS → Prop} {l0 l1 : Option Value} {a : Nat} {x : Int32} (ho : yisO 1 a) : G d 7 21 [l0, l1] (.int x :: .ref a :: st) (yemb t) Q ↔ G d 7 22 [l0, l1] st (yemb (t.s1 a 2 x)) Q := gs_putI (c := 1) (j := 2) f_7_21 (fun _ => rfl) rfl rfl ho
theorem f_7_22 : ft 7 22 = some (38, .aload_n 0, []) := rfl
theorem s_7_22 {d : Nat} {σ : xS} {st : List Value} {Q : xR → xS → Prop} {l1 : Option Value} {x : Nat} : G d 7 22 [some (.ref x), l1] st σ Q ↔ G d 7 23 [some (.ref x), l1] (.ref x :: st) σ Q := gs_go f_7_22 rfl
theorem f_7_23 : ft 7 23 = some (39, .dup, []) := rfl
theorem s_7_23 {d : Nat} {σ : xS} {st : List Value} {Q : xR → xS → Prop} {l0 l1 : Option Value} {x : Nat} : G d 7 23 [l0, l1] (.ref x :: st) σ Q ↔ G d 7 24 [l0, l1] (.ref x :: .ref x :: st) σ Q := gs_go f_7_23 rfl
theorem s_7_23i {d : Nat} {σ : xS} {st : List Value} {Q : xR → xS → Prop} {l0 l1 : Option Value} {x : Int32} : G d 7 23 [l0, l1] (.int x :: st) σ Q ↔ G d 7 24 [l0, l1] (.int x :: .int x :: st) σ Q := gs_go f_7_23 rfl
theorem f_7_24 : ft 7 24 = some (40, .getfield 17, [1, 1, 0, 307]) := rfl
theorem s_7_24 {d : Nat} {t : yT} {st : List Value} {Q : xR → xS → Prop} {l0 l1 : Option Value} {a : Nat} (ho : yisO 1 a) : G d 7 24 [l0, l1] (.ref a :: st) (yemb t) Q ↔ G d 7 25 [l0, l1] (.int (t.A a 1) :: st) (yemb t) Q := gs_getf (c := 1) (j := 1) (q := .i) f_7_24 ho rfl
theorem f_7_25 : ft 7 25 = some (43, .iconst 1, []) := rfl
theorem s_7_25 {d : Nat} {σ : xS} {st : List Value} {Q : xR → xS → Prop} {l0 l1 : Option Value} : G d 7 25 [l0, l1] st σ Q ↔ G d 7 26 [l0, l1] (.int (1) :: st) σ Q := gs_go f_7_25 rfl
theorem f_7_26 : ft 7 26 = some (44, .isub, []) := rfl
theorem s_7_26 {d : Nat} {σ : xS} {st : List Value} {Q : xR → xS → Prop} {l0 l1 : Option Value} {x y : Int32} : G d 7 26 [l0, l1] (.int y :: .int x :: st) σ Q ↔ G d 7 27 [l0, l1] (.int (x - y) :: st) σ Q := gs_go f_7_26 rfl
theorem f_7_27 : ft 7 27 = some (45, .putfield 17, [1, 1, 0, 307]) := rfl
theorem s_7_27 {d : Nat} {t : yT} {st : List Value} {Q : xR → xS → Prop} {l0 l1 : Option Value} {a : Nat} {x : Int32} (ho : yisO 1 a) : G d 7 27 [l0, l1] (.int x :: .ref a :: st) (yemb t) Q ↔ G d 7 28 [l0, l1] st (yemb (t.s1 a 1 x)) Q := gs_putI (c := 1) (j := 1) f_7_27 (fun _ => rfl) rfl rfl ho
theorem f_7_28 : ft 7 28 = some (48, .aload_n 0, []) := rfl
theorem s_7_28 {d : Nat} {σ : xS} {st : List Value} {Q : xR → xS → Prop} {l1 : Option Value} {x : Nat} : G d 7 28 [some (.ref x), l1] st σ Q ↔ G d 7 29 [some (.ref x), l1] (.ref x :: st) σ Q := gs_go f_7_28 rfl
theorem f_7_29 : ft 7 29 = some (49, .getfield 17, [1, 1, 0, 307]) := rfl
theorem s_7_29 {d : Nat} {t : yT} {st : List Value} {Q : xR → xS → Prop} {l0 l1 : Option Value} {a : Nat} (ho : yisO 1 a) : G d 7 29 [l0, l1] (.ref a :: st) (yemb t) Q ↔ G d 7 30 [l0, l1] (.int (t.A a 1) :: st) (yemb t) Q := gs_getf (c := 1) (j := 1) (q := .i) f_7_29 ho rfl
theorem f_7_30 : ft 7 30 = some (52, .ireturn, []) := rfl
theorem s_7_30 {d : Nat} {σ : xS} {ls : xL} {Q : xR → xS → Prop} {x : Int32} : G d 7 30 ls [.int x] σ Q ↔ Q (.inl (some (.int x))) σ := gs_reti f_7_30 rfl
theorem f_8_0 : ft 8 0 = some (0, .aload_n 0, []) := rfl
theorem s_8_0 {d : Nat} {σ : xS} {st : List Value} {Q : xR → xS → Prop} {l1 l2 l3 : Option Value} {x : Nat} : G d 8 0 [some (.ref x), l1, l2, l3] st σ Q ↔ G d 8 1 [some (.ref x), l1, l2, l3] (.ref x :: st) σ Q := gs_go f_8_0 rfl
theorem f_8_1 : ft 8 1 = some (1, .invokespecial 3, [0, 1, 20, 268]) := rfl
theorem f_8_2 : ft 8 2 = some (4, .aload_n 0, []) := rfl
theorem s_8_2 {d : Nat} {σ : xS} {st : List Value} {Q : xR → xS → Prop} {l1 l2 l3 : Option Value} {x : Nat} : G d 8 2 [some (.ref x), l1, l2, l3] st σ Q ↔ G d 8 3 [some (.ref x), l1, l2, l3] (.ref x :: st) σ Q := gs_go f_8_2 rfl
theorem f_8_3 : ft 8 3 = some (5, .bipush 60, []) := rfl
theorem s_8_3 {d : Nat} {σ : xS} {st : List Value} {Q : xR → xS → Prop} {l0 l1 l2 l3 : Option Value} : G d 8 3 [l0, l1, l2, l3] st σ Q ↔ G d 8 4 [l0, l1, l2, l3] (.int (60) :: st) σ Q := gs_go f_8_3 rfl
theorem f_8_4 : ft 8 4 = some (7, .newarray .int, [0]) := rfl
theorem f_8_5 : ft 8 5 = some (9, .putfield 11, [2, 3, 0, 272]) := rfl
theorem f_8_6 : ft 8 6 = some (12, .aload_n 0, []) := rfl
theorem s_8_6 {d : Nat} {σ : xS} {st : List Value} {Q : xR → xS → Prop} {l1 l2 l3 : Option Value} {x : Nat} : G d 8 6 [some (.ref x), l1, l2, l3] st σ Q ↔ G d 8 7 [some (.ref x), l1, l2, l3] (.ref x :: st) σ Q := gs_go f_8_6 rfl
theorem f_8_7 : ft 8 7 = some (13, .sipush 300, []) := rfl
theorem s_8_7 {d : Nat} {σ : xS} {st : List Value} {Q : xR → xS → Prop} {l0 l1 l2 l3 : Option Value} : G d 8 7 [l0, l1, l2, l3] st σ Q ↔ G d 8 8 [l0, l1, l2, l3] (.int (300) :: st) σ Q := gs_go f_8_7 rfl
theorem f_8_8 : ft 8 8 = some (16, .newarray .int, [0]) := rfl
theorem f_8_9 : ft 8 9 = some (18, .putfield 15, [2, 4, 0, 273]) := rfl
theorem f_8_10 : ft 8 10 = some (21, .aload_n 0, []) := rfl
theorem s_8_10 {d : Nat} {σ : xS} {st : List Value} {Q : xR → xS → Prop} {l1 l2 l3 : Option Value} {x : Nat} : G d 8 10 [some (.ref x), l1, l2, l3] st σ Q ↔ G d 8 11 [some (.ref x), l1, l2, l3] (.ref x :: st) σ Q := gs_go f_8_10 rfl
theorem f_8_11 : ft 8 11 = some (22, .bipush 60, []) := rfl
theorem s_8_11 {d : Nat} {σ : xS} {st : List Value} {Q : xR → xS → Prop} {l0 l1 l2 l3 : Option Value} : G d 8 11 [l0, l1, l2, l3] st σ Q ↔ G d 8 12 [l0, l1, l2, l3] (.int (60) :: st) σ Q := gs_go f_8_11 rfl
theorem f_8_12 : ft 8 12 = some (24, .newarray .int, [0]) := rfl
theorem f_8_13 : ft 8 13 = some (26, .putfield 18, [2, 5, 0, 274]) := rfl
theorem f_8_14 : ft 8 14 = some (29, .aload_n 0, []) := rfl
theorem s_8_14 {d : Nat} {σ : xS} {st : List Value} {Q : xR → xS → Prop} {l1 l2 l3 : Option Value} {x : Nat} : G d 8 14 [some (.ref x), l1, l2, l3] st σ Q ↔ G d 8 15 [some (.ref x), l1, l2, l3] (.ref x :: st) σ Q := gs_go f_8_14 rfl
theorem f_8_15 : ft 8 15 = some (30, .iconst 0, []) := rfl
theorem s_8_15 {d : Nat} {σ : xS} {st : List Value} {Q : xR → xS → Prop} {l0 l1 l2 l3 : Option Value} : G d 8 15 [l0, l1, l2, l3] st σ Q ↔ G d 8 16 [l0, l1, l2, l3] (.int (0) :: st) σ Q := gs_go f_8_15 rfl
theorem f_8_16 : ft 8 16 = some (31, .putfield 21, [2, 6, 0, 275]) := rfl
theorem s_8_16 {d : Nat} {t : yT} {st : List Value} {Q : xR → xS → Prop} {l0 l1 l2 l3 : Option Value} {a : Nat} {x : Int32} (ho : yisO 2 a) : G d 8 16 [l0, l1, l2, l3] (.int x :: .ref a :: st) (yemb t) Q ↔ G d 8 17 [l0, l1, l2, l3] st (yemb (t.s1 a 6 x)) Q := gs_putI (c := 2) (j := 6) f_8_16 (fun _ => rfl) rfl rfl ho
theorem f_8_17 : ft 8 17 = some (34, .aload_n 0, []) := rfl
theorem s_8_17 {d : Nat} {σ : xS} {st : List Value} {Q : xR → xS → Prop} {l1 l2 l3 : Option Value} {x : Nat} : G d 8 17 [some (.ref x), l1, l2, l3] st σ Q ↔ G d 8 18 [some (.ref x), l1, l2, l3] (.ref x :: st) σ Q := gs_go f_8_17 rfl
theorem f_8_18 : ft 8 18 = some (35, .iconst 0, []) := rfl
theorem s_8_18 {d : Nat} {σ : xS} {st : List Value} {Q : xR → xS → Prop} {l0 l1 l2 l3 : Option Value} : G d 8 18 [l0, l1, l2, l3] st σ Q ↔ G d 8 19 [l0, l1, l2, l3] (.int (0) :: st) σ Q := gs_go f_8_18 rfl
theorem f_8_19 : ft 8 19 = some (36, .putfield 25, [2, 7, 0, 276]) := rfl
theorem s_8_19 {d : Nat} {t : yT} {st : List Value} {Q : xR → xS → Prop} {l0 l1 l2 l3 : Option Value} {a : Nat} {x : Int32} (ho : yisO 2 a) : G d 8 19 [l0, l1, l2, l3] (.int x :: .ref a :: st) (yemb t) Q ↔ G d 8 20 [l0, l1, l2, l3] st (yemb (t.s1 a 7 x)) Q := gs_putI (c := 2) (j := 7) f_8_19 (fun _ => rfl) rfl rfl ho
theorem f_8_20 : ft 8 20 = some (39, .aload_n 0, []) := rfl
theorem s_8_20 {d : Nat} {σ : xS} {st : List Value} {Q : xR → xS → Prop} {l1 l2 l3 : Option Value} {x : Nat} : G d 8 20 [some (.ref x), l1, l2, l3] st σ Q ↔ G d 8 21 [some (.ref x), l1, l2, l3] (.ref x :: st) σ Q := gs_go f_8_20 rfl
theorem f_8_21 : ft 8 21 = some (40, .iconst 0, []) := rfl
theorem s_8_21 {d : Nat} {σ : xS} {st : List Value} {Q : xR → xS → Prop} {l0 l1 l2 l3 : Option Value} : G d 8 21 [l0, l1, l2, l3] st σ Q ↔ G d 8 22 [l0, l1, l2, l3] (.int (0) :: st) σ Q := gs_go f_8_21 rfl
theorem f_8_22 : ft 8 22 = some (41, .putfield 28, [2, 8, 0, 277]) := rfl
theorem s_8_22 {d : Nat} {t : yT} {st : List Value} {Q : xR → xS → Prop} {l0 l1 l2 l3 : Option Value} {a : Nat} {x : Int32} (ho : yisO 2 a) : G d 8 22 [l0, l1, l2, l3] (.int x :: .ref a :: st) (yemb t) Q ↔ G d 8 23 [l0, l1, l2, l3] st (yemb (t.s1 a 8 x)) Q := gs_putI (c := 2) (j := 8) f_8_22 (fun _ => rfl) rfl rfl ho
theorem f_8_23 : ft 8 23 = some (44, .aload_n 0, []) := rfl
theorem s_8_23 {d : Nat} {σ : xS} {st : List Value} {Q : xR → xS → Prop} {l1 l2 l3 : Option Value} {x : Nat} : G d 8 23 [some (.ref x), l1, l2, l3] st σ Q ↔ G d 8 24 [some (.ref x), l1, l2, l3] (.ref x :: st) σ Q := gs_go f_8_23 rfl
theorem f_8_24 : ft 8 24 = some (45, .aload_n 1, []) := rfl
theorem s_8_24 {d : Nat} {σ : xS} {st : List Value} {Q : xR → xS → Prop} {l0 l2 l3 : Option Value} {x : Nat} : G d 8 24 [l0, some (.ref x), l2, l3] st σ Q ↔ G d 8 25 [l0, some (.ref x), l2, l3] (.ref x :: st) σ Q := gs_go f_8_24 rfl
theorem f_8_25 : ft 8 25 = some (46, .putfield 31, [2, 0, 0, 269]) := rfl
theorem f_8_26 : ft 8 26 = some (49, .aload_n 0, []) := rfl
theorem s_8_26 {d : Nat} {σ : xS} {st : List Value} {Q : xR → xS → Prop} {l1 l2 l3 : Option Value} {x : Nat} : G d 8 26 [some (.ref x), l1, l2, l3] st σ Q ↔ G d 8 27 [some (.ref x), l1, l2, l3] (.ref x :: st) σ Q := gs_go f_8_26 rfl
theorem f_8_27 : ft 8 27 = some (50, .aload_n 2, []) := rfl
theorem s_8_27 {d : Nat} {σ : xS} {st : List Value} {Q : xR → xS → Prop} {l0 l1 l3 : Option Value} {x : Nat} : G d 8 27 [l0, l1, some (.ref x), l3] st σ Q ↔ G d 8 28 [l0, l1, some (.ref x), l3] (.ref x :: st) σ Q := gs_go f_8_27 rfl
theorem f_8_28 : ft 8 28 = some (51, .putfield 35, [2, 1, 0, 270]) := rfl
theorem f_8_29 : ft 8 29 = some (54, .aload_n 0, []) := rfl
theorem s_8_29 {d : Nat} {σ : xS} {st : List Value} {Q : xR → xS → Prop} {l1 l2 l3 : Option Value} {x : Nat} : G d 8 29 [some (.ref x), l1, l2, l3] st σ Q ↔ G d 8 30 [some (.ref x), l1, l2, l3] (.ref x :: st) σ Q := gs_go f_8_29 rfl
theorem f_8_30 : ft 8 30 = some (55, .aload_n 3, []) := rfl
theorem s_8_30 {d : Nat} {σ : xS} {st : List Value} {Q : xR → xS → Prop} {l0 l1 l2 : Option Value} {x : Nat} : G d 8 30 [l0, l1, l2, some (.ref x)] st σ Q ↔ G d 8 31 [l0, l1, l2, some (.ref x)] (.ref x :: st) σ Q := gs_go f_8_30 rfl
theorem f_8_31 : ft 8 31 = some (56, .putfield 39, [2, 2, 0, 271]) := rfl
theorem f_8_32 : ft 8 32 = some (59, .return_, []) := rfl
theorem s_8_32 {d : Nat} {σ : xS} {ls : xL} {Q : xR → xS → Prop} : G d 8 32 ls [] σ Q ↔ Q (.inl none) σ := gs_ret f_8_32 rfl
theorem f_9_0 : ft 9 0 = some (0, .aload_n 0, []) := rfl
theorem s_9_0 {d : Nat} {σ : xS} {st : List Value} {Q : xR → xS → Prop} {x : Nat} : G d 9 0 [some (.ref x)] st σ Q ↔ G d 9 1 [some (.ref x)] (.ref x :: st) σ Q := gs_go f_9_0 rfl
theorem f_9_1 : ft 9 1 = some (1, .getfield 21, [2, 6, 0, 275]) := rfl
theorem s_9_1 {d : Nat} {t : yT} {st : List Value} {Q : xR → xS → Prop} {l0 : Option Value} {a : Nat} (ho : yisO 2 a) : G d 9 1 [l0] (.ref a :: st) (yemb t) Q ↔ G d 9 2 [l0] (.int (t.A a 6) :: st) (yemb t) Q := gs_getf (c := 2) (j := 6) (q := .i) f_9_1 ho rfl
theorem f_9_2 : ft 9 2 = some (4, .ireturn, []) := rfl
theorem s_9_2 {d : Nat} {σ : xS} {ls : xL} {Q : xR → xS → Prop} {x : Int32} : G d 9 2 ls [.int x] σ Q ↔ Q (.inl (some (.int x))) σ := gs_reti f_9_2 rfl
theorem f_10_0 : ft 10 0 = some (0, .aload_n 0, []) := rfl
theorem s_10_0 {d : Nat} {σ : xS} {st : List Value} {Q : xR → xS → Prop} {x : Nat} : G d 10 0 [some (.ref x)] st σ Q ↔ G d 10 1 [some (.ref x)] (.ref x :: st) σ Q := gs_go f_10_0 rfl
theorem f_10_1 : ft 10 1 = some (1, .getfield 25, [2, 7, 0, 276]) := rfl
theorem s_10_1 {d : Nat} {t : yT} {st : List Value} {Q : xR → xS → Prop} {l0 : Option Value} {a : Nat} (ho : yisO 2 a) : G d 10 1 [l0] (.ref a :: st) (yemb t) Q ↔ G d 10 2 [l0] (.int (t.A a 7) :: st) (yemb t) Q := gs_getf (c := 2) (j := 7) (q := .i) f_10_1 ho rfl
theorem f_10_2 : ft 10 2 = some (4, .ireturn, []) := rfl
theorem s_10_2 {d : Nat} {σ : xS} {ls : xL} {Q : xR → xS → Prop} {x : Int32} : G d 10 2 ls [.int x] σ Q ↔ Q (.inl (some (.int x))) σ := gs_reti f_10_2 rfl
theorem f_11_0 : ft 11 0 = some (0, .aload_n 0, []) := rfl
theorem s_11_0 {d : Nat} {σ : xS} {st : List Value} {Q : xR → xS → Prop} {x : Nat} : G d 11 0 [some (.ref x)] st σ Q ↔ G d 11 1 [some (.ref x)] (.ref x :: st) σ Q := gs_go f_11_0 rfl
theorem f_11_1 : ft 11 1 = some (1, .getfield 28, [2, 8, 0, 277]) := rfl
theorem s_11_1 {d : Nat} {t : yT} {st : List Value} {Q : xR → xS → Prop} {l0 : Option Value} {a : Nat} (ho : yisO 2 a) : G d 11 1 [l0] (.ref a :: st) (yemb t) Q ↔ G d 11 2 [l0] (.int (t.A a 8) :: st) (yemb t) Q := gs_getf (c := 2) (j := 8) (q := .i) f_11_1 ho rfl
theorem f_11_2 : ft 11 2 = some (4, .ireturn, []) := rfl
theorem s_11_2 {d : Nat} {σ : xS} {ls : xL} {Q : xR → xS → Prop} {x : Int32} : G d 11 2 ls [.int x] σ Q ↔ Q (.inl (some (.int x))) σ := gs_reti f_11_2 rfl
theorem f_12_0 : ft 12 0 = some (0, .aload_n 0, []) := rfl
theorem s_12_0 {d : Nat} {σ : xS} {st : List Value} {Q : xR → xS → Prop} {x : Nat} : G d 12 0 [some (.ref x)] st σ Q ↔ G d 12 1 [some (.ref x)] (.ref x :: st) σ Q := gs_go f_12_0 rfl
theorem f_12_1 : ft 12 1 = some (1, .iconst 0, []) := rfl
theorem s_12_1 {d : Nat} {σ : xS} {st : List Value} {Q : xR → xS → Prop} {l0 : Option Value} : G d 12 1 [l0] st σ Q ↔ G d 12 2 [l0] (.int (0) :: st) σ Q := gs_go f_12_1 rfl
theorem f_12_2 : ft 12 2 = some (2, .putfield 21, [2, 6, 0, 275]) := rfl
theorem s_12_2 {d : Nat} {t : yT} {st : List Value} {Q : xR → xS → Prop} {l0 : Option Value} {a : Nat} {x : Int32} (ho : yisO 2 a) : G d 12 2 [l0] (.int x :: .ref a :: st) (yemb t) Q ↔ G d 12 3 [l0] st (yemb (t.s1 a 6 x)) Q := gs_putI (c := 2) (j := 6) f_12_2 (fun _ => rfl) rfl rfl ho
theorem f_12_3 : ft 12 3 = some (5, .aload_n 0, []) := rfl
theorem s_12_3 {d : Nat} {σ : xS} {st : List Value} {Q : xR → xS → Prop} {x : Nat} : G d 12 3 [some (.ref x)] st σ Q ↔ G d 12 4 [some (.ref x)] (.ref x :: st) σ Q := gs_go f_12_3 rfl
theorem f_12_4 : ft 12 4 = some (6, .iconst 0, []) := rfl
theorem s_12_4 {d : Nat} {σ : xS} {st : List Value} {Q : xR → xS → Prop} {l0 : Option Value} : G d 12 4 [l0] st σ Q ↔ G d 12 5 [l0] (.int (0) :: st) σ Q := gs_go f_12_4 rfl
theorem f_12_5 : ft 12 5 = some (7, .putfield 25, [2, 7, 0, 276]) := rfl
theorem s_12_5 {d : Nat} {t : yT} {st : List Value} {Q : xR → xS → Prop} {l0 : Option Value} {a : Nat} {x : Int32} (ho : yisO 2 a) : G d 12 5 [l0] (.int x :: .ref a :: st) (yemb t) Q ↔ G d 12 6 [l0] st (yemb (t.s1 a 7 x)) Q := gs_putI (c := 2) (j := 7) f_12_5 (fun _ => rfl) rfl rfl ho
theorem f_12_6 : ft 12 6 = some (10, .aload_n 0, []) := rfl
theorem s_12_6 {d : Nat} {σ : xS} {st : List Value} {Q : xR → xS → Prop} {x : Nat} : G d 12 6 [some (.ref x)] st σ Q ↔ G d 12 7 [some (.ref x)] (.ref x :: st) σ Q := gs_go f_12_6 rfl
theorem f_12_7 : ft 12 7 = some (11, .iconst 0, []) := rfl
theorem s_12_7 {d : Nat} {σ : xS} {st : List Value} {Q : xR → xS → Prop} {l0 : Option Value} : G d 12 7 [l0] st σ Q ↔ G d 12 8 [l0] (.int (0) :: st) σ Q := gs_go f_12_7 rfl
theorem f_12_8 : ft 12 8 = some (12, .putfield 28, [2, 8, 0, 277]) := rfl
theorem s_12_8 {d : Nat} {t : yT} {st : List Value} {Q : xR → xS → Prop} {l0 : Option Value} {a : Nat} {x : Int32} (ho : yisO 2 a) : G d 12 8 [l0] (.int x :: .ref a :: st) (yemb t) Q ↔ G d 12 9 [l0] st (yemb (t.s1 a 8 x)) Q := gs_putI (c := 2) (j := 8) f_12_8 (fun _ => rfl) rfl rfl ho
theorem f_12_9 : ft 12 9 = some (15, .aload_n 0, []) := rfl
theorem s_12_9 {d : Nat} {σ : xS} {st : List Value} {Q : xR → xS → Prop} {x : Nat} : G d 12 9 [some (.ref x)] st σ Q ↔ G d 12 10 [some (.ref x)] (.ref x :: st) σ Q := gs_go f_12_9 rfl
theorem f_12_10 : ft 12 10 = some (16, .iconst 0, []) := rfl
theorem s_12_10 {d : Nat} {σ : xS} {st : List Value} {Q : xR → xS → Prop} {l0 : Option Value} : G d 12 10 [l0] st σ Q ↔ G d 12 11 [l0] (.int (0) :: st) σ Q := gs_go f_12_10 rfl
theorem f_12_11 : ft 12 11 = some (17, .invokevirtual 43, [13, 2, 0, 909]) := rfl
theorem s_12_11 {d : Nat} {t : yT} {st : List Value} {Q : xR → xS → Prop} {l0 : Option Value} {a0 : Nat} {a1 : Int32} (ho : yisO 2 a0) : G (d + 1) 12 11 [l0] (.int a1 :: .ref a0 :: st) (yemb t) Q ↔ xcat st ≤ 8 ∧ Cl d 13 [.ref a0, .int a1] (yemb t) (Gk (d + 1) 12 11 [l0] st Q) := gs_call f_12_11 ((xinv_call (i := 11) (n := 909) (ls := [l0]) (kind := 0) (σ := yemb t) (by decide)).trans (xcall_vi [.int a1, .ref a0] rfl rfl (show (2 : Nat) ≤ 3 by decide) rfl ho))
theorem f_12_12 : ft 12 12 = some (20, .ifCond .eq 17, [19]) := rfl
theorem s_12_12 {d : Nat} {σ : xS} {st : List Value} {Q : xR → xS → Prop} {l0 : Option Value} {x : Int32} : G d 12 12 [l0] (.int x :: st) σ Q ↔ if x = 0 then G d 12 19 [l0] st σ Q else G d 12 13 [l0] st σ Q := gs_if f_12_12 rfl
theorem f_12_13 : ft 12 13 = some (23, .aload_n 0, []) := rfl
theorem s_12_13 {d : Nat} {σ : xS} {st : List Value} {Q : xR → xS → Prop} {x : Nat} : G d 12 13 [some (.ref x)] st σ Q ↔ G d 12 14 [some (.ref x)] (.ref x :: st) σ Q := gs_go f_12_13 rfl
theorem f_12_14 : ft 12 14 = some (24, .getfield 31, [2, 0, 0, 269]) := rfl
theorem s_12_14 {d : Nat} {t : yT} {st : List Value} {Q : xR → xS → Prop} {l0 : Option Value} {a : Nat} (ho : yisO 2 a) : G d 12 14 [l0] (.ref a :: st) (yemb t) Q ↔ G d 12 15 [l0] (.ref 1 :: st) (yemb t) Q := gs_getf (c := 2) (j := 0) (q := .c 1) f_12_14 ho rfl
theorem f_12_15 : ft 12 15 = some (27, .invokevirtual 47, [86, 1, 0, 940]) := rfl
theorem s_12_15 {d : Nat} {t : yT} {st : List Value} {Q : xR → xS → Prop} {l0 : Option Value} {a0 : Nat} (ho : yisO 6 a0) : G (d + 1) 12 15 [l0] (.ref a0 :: st) (yemb t) Q ↔ xcat st ≤ 8 ∧ Cl d 86 [.ref a0] (yemb t) (Gk (d + 1) 12 15 [l0] st Q) := gs_call f_12_15 ((xinv_call (i := 15) (n := 940) (ls := [l0]) (kind := 0) (σ := yemb t) (by decide)).trans (xcall_vi [.ref a0] rfl rfl (show (1 : Nat) ≤ 1 by decide) rfl ho))
theorem f_12_16 : ft 12 16 = some (30, .ifCond .eq 7, [19]) := rfl
theorem s_12_16 {d : Nat} {σ : xS} {st : List Value} {Q : xR → xS → Prop} {l0 : Option Value} {x : Int32} : G d 12 16 [l0] (.int x :: st) σ Q ↔ if x = 0 then G d 12 19 [l0] st σ Q else G d 12 17 [l0] st σ Q := gs_if f_12_16 rfl
theorem f_12_17 : ft 12 17 = some (33, .iconst 1, []) := rfl
theorem s_12_17 {d : Nat} {σ : xS} {st : List Value} {Q : xR → xS → Prop} {l0 : Option Value} : G d 12 17 [l0] st σ Q ↔ G d 12 18 [l0] (.int (1) :: st) σ Q := gs_go f_12_17 rfl
theorem f_12_18 : ft 12 18 = some (34, .goto 4, [20]) := rfl
theorem s_12_18 {d : Nat} {σ : xS} {st : List Value} {Q : xR → xS → Prop} {l0 : Option Value} : G d 12 18 [l0] st σ Q ↔ G d 12 20 [l0] st σ Q := gs_go f_12_18 rfl
theorem f_12_19 : ft 12 19 = some (37, .iconst 0, []) := rfl
theorem s_12_19 {d : Nat} {σ : xS} {st : List Value} {Q : xR → xS → Prop} {l0 : Option Value} : G d 12 19 [l0] st σ Q ↔ G d 12 20 [l0] (.int (0) :: st) σ Q := gs_go f_12_19 rfl
theorem f_12_20 : ft 12 20 = some (38, .ireturn, []) := rfl
theorem s_12_20 {d : Nat} {σ : xS} {ls : xL} {Q : xR → xS → Prop} {x : Int32} : G d 12 20 ls [.int x] σ Q ↔ ybo x ∧ Q (.inl (some (.int x))) σ := gs_retb f_12_20 rfl
theorem f_13_0 : ft 13 0 = some (0, .iconst 0, []) := rfl
theorem s_13_0 {d : Nat} {σ : xS} {st : List Value} {Q : xR → xS → Prop} {l0 l1 l2 : Option Value} : G d 13 0 [l0, l1, l2] st σ Q ↔ G d 13 1 [l0, l1, l2] (.int (0) :: st) σ Q := gs_go f_13_0 rfl
theorem f_13_1 : ft 13 1 = some (1, .istore_n 2, []) := rfl
theorem s_13_1 {d : Nat} {σ : xS} {st : List Value} {Q : xR → xS → Prop} {l0 l1 l2 : Option Value} {x : Int32} : G d 13 1 [l0, l1, l2] (.int x :: st) σ Q ↔ G d 13 2 [l0, ykl l1, some (.int x)] st σ Q := by
  cases l1 with
  | none => exact gs_go f_13_1 rfl
  | some v => cases v <;> exact gs_go f_13_1 rfl
theorem f_13_2 : ft 13 2 = some (2, .iload_n 2, []) := rfl
theorem s_13_2 {d : Nat} {σ : xS} {st : List Value} {Q : xR → xS → Prop} {l0 l1 : Option Value} {x : Int32} : G d 13 2 [l0, l1, some (.int x)] st σ Q ↔ G d 13 3 [l0, l1, some (.int x)] (.int x :: st) σ Q := gs_go f_13_2 rfl
theorem f_13_3 : ft 13 3 = some (3, .sipush 600, []) := rfl
theorem s_13_3 {d : Nat} {σ : xS} {st : List Value} {Q : xR → xS → Prop} {l0 l1 l2 : Option Value} : G d 13 3 [l0, l1, l2] st σ Q ↔ G d 13 4 [l0, l1, l2] (.int (600) :: st) σ Q := gs_go f_13_3 rfl
theorem f_13_4 : ft 13 4 = some (6, .if_icmp .ge 53, [27]) := rfl
theorem s_13_4 {d : Nat} {σ : xS} {st : List Value} {Q : xR → xS → Prop} {l0 l1 l2 : Option Value} {x y : Int32} : G d 13 4 [l0, l1, l2] (.int y :: .int x :: st) σ Q ↔ if y ≤ x then G d 13 27 [l0, l1, l2] st σ Q else G d 13 5 [l0, l1, l2] st σ Q := gs_if f_13_4 rfl
theorem f_13_5 : ft 13 5 = some (9, .aload_n 0, []) := rfl
theorem s_13_5 {d : Nat} {σ : xS} {st : List Value} {Q : xR → xS → Prop} {l1 l2 : Option Value} {x : Nat} : G d 13 5 [some (.ref x), l1, l2] st σ Q ↔ G d 13 6 [some (.ref x), l1, l2] (.ref x :: st) σ Q := gs_go f_13_5 rfl
theorem f_13_6 : ft 13 6 = some (10, .getfield 31, [2, 0, 0, 269]) := rfl
theorem s_13_6 {d : Nat} {t : yT} {st : List Value} {Q : xR → xS → Prop} {l0 l1 l2 : Option Value} {a : Nat} (ho : yisO 2 a) : G d 13 6 [l0, l1, l2] (.ref a :: st) (yemb t) Q ↔ G d 13 7 [l0, l1, l2] (.ref 1 :: st) (yemb t) Q := gs_getf (c := 2) (j := 0) (q := .c 1) f_13_6 ho rfl
theorem f_13_7 : ft 13 7 = some (13, .invokevirtual 53, [83, 1, 0, 913]) := rfl
theorem s_13_7 {d : Nat} {t : yT} {st : List Value} {Q : xR → xS → Prop} {l0 l1 l2 : Option Value} {a0 : Nat} (ho : yisO 6 a0) : G (d + 1) 13 7 [l0, l1, l2] (.ref a0 :: st) (yemb t) Q ↔ xcat st ≤ 8 ∧ Cl d 83 [.ref a0] (yemb t) (Gk (d + 1) 13 7 [l0, l1, l2] st Q) := gs_call f_13_7 ((xinv_call (i := 7) (n := 913) (ls := [l0, l1, l2]) (kind := 0) (σ := yemb t) (by decide)).trans (xcall_vi [.ref a0] rfl rfl (show (1 : Nat) ≤ 1 by decide) rfl ho))
theorem f_13_8 : ft 13 8 = some (16, .ifCond .ne 43, [27]) := rfl
theorem s_13_8 {d : Nat} {σ : xS} {st : List Value} {Q : xR → xS → Prop} {l0 l1 l2 : Option Value} {x : Int32} : G d 13 8 [l0, l1, l2] (.int x :: st) σ Q ↔ if x ≠ 0 then G d 13 27 [l0, l1, l2] st σ Q else G d 13 9 [l0, l1, l2] st σ Q := gs_if f_13_8 rfl
theorem f_13_9 : ft 13 9 = some (19, .aload_n 0, []) := rfl
theorem s_13_9 {d : Nat} {σ : xS} {st : List Value} {Q : xR → xS → Prop} {l1 l2 : Option Value} {x : Nat} : G d 13 9 [some (.ref x), l1, l2] st σ Q ↔ G d 13 10 [some (.ref x), l1, l2] (.ref x :: st) σ Q := gs_go f_13_9 rfl
theorem f_13_10 : ft 13 10 = some (20, .getfield 31, [2, 0, 0, 269]) := rfl
theorem s_13_10 {d : Nat} {t : yT} {st : List Value} {Q : xR → xS → Prop} {l0 l1 l2 : Option Value} {a : Nat} (ho : yisO 2 a) : G d 13 10 [l0, l1, l2] (.ref a :: st) (yemb t) Q ↔ G d 13 11 [l0, l1, l2] (.ref 1 :: st) (yemb t) Q := gs_getf (c := 2) (j := 0) (q := .c 1) f_13_10 ho rfl
theorem f_13_11 : ft 13 11 = some (23, .bipush 41, []) := rfl
theorem s_13_11 {d : Nat} {σ : xS} {st : List Value} {Q : xR → xS → Prop} {l0 l1 l2 : Option Value} : G d 13 11 [l0, l1, l2] st σ Q ↔ G d 13 12 [l0, l1, l2] (.int (41) :: st) σ Q := gs_go f_13_11 rfl
theorem f_13_12 : ft 13 12 = some (25, .invokevirtual 56, [84, 2, 0, 914]) := rfl
theorem s_13_12 {d : Nat} {t : yT} {st : List Value} {Q : xR → xS → Prop} {l0 l1 l2 : Option Value} {a0 : Nat} {a1 : Int32} (ho : yisO 6 a0) : G (d + 1) 13 12 [l0, l1, l2] (.int a1 :: .ref a0 :: st) (yemb t) Q ↔ xcat st ≤ 8 ∧ Cl d 84 [.ref a0, .int a1] (yemb t) (Gk (d + 1) 13 12 [l0, l1, l2] st Q) := gs_call f_13_12 ((xinv_call (i := 12) (n := 914) (ls := [l0, l1, l2]) (kind := 0) (σ := yemb t) (by decide)).trans (xcall_vi [.int a1, .ref a0] rfl rfl (show (2 : Nat) ≤ 2 by decide) rfl ho))
theorem f_13_13 : ft 13 13 = some (28, .ifCond .ne 31, [27]) := rfl
theorem s_13_13 {d : Nat} {σ : xS} {st : List Value} {Q : xR → xS → Prop} {l0 l1 l2 : Option Value} {x : Int32} : G d 13 13 [l0, l1, l2] (.int x :: st) σ Q ↔ if x ≠ 0 then G d 13 27 [l0, l1, l2] st σ Q else G d 13 14 [l0, l1, l2] st σ Q := gs_if f_13_13 rfl
theorem f_13_14 : ft 13 14 = some (31, .aload_n 0, []) := rfl
theorem s_13_14 {d : Nat} {σ : xS} {st : List Value} {Q : xR → xS → Prop} {l1 l2 : Option Value} {x : Nat} : G d 13 14 [some (.ref x), l1, l2] st σ Q ↔ G d 13 15 [some (.ref x), l1, l2] (.ref x :: st) σ Q := gs_go f_13_14 rfl
theorem f_13_15 : ft 13 15 = some (32, .iload_n 1, []) := rfl
theorem s_13_15 {d : Nat} {σ : xS} {st : List Value} {Q : xR → xS → Prop} {l0 l2 : Option Value} {x : Int32} : G d 13 15 [l0, some (.int x), l2] st σ Q ↔ G d 13 16 [l0, some (.int x), l2] (.int x :: st) σ Q := gs_go f_13_15 rfl
theorem f_13_16 : ft 13 16 = some (33, .invokevirtual 60, [14, 2, 0, 915]) := rfl
theorem s_13_16 {d : Nat} {t : yT} {st : List Value} {Q : xR → xS → Prop} {l0 l1 l2 : Option Value} {a0 : Nat} {a1 : Int32} (ho : yisO 2 a0) : G (d + 1) 13 16 [l0, l1, l2] (.int a1 :: .ref a0 :: st) (yemb t) Q ↔ xcat st ≤ 8 ∧ Cl d 14 [.ref a0, .int a1] (yemb t) (Gk (d + 1) 13 16 [l0, l1, l2] st Q) := gs_call f_13_16 ((xinv_call (i := 16) (n := 915) (ls := [l0, l1, l2]) (kind := 0) (σ := yemb t) (by decide)).trans (xcall_vi [.int a1, .ref a0] rfl rfl (show (2 : Nat) ≤ 4 by decide) rfl ho))
theorem f_13_17 : ft 13 17 = some (36, .ifCond .eq 15, [23]) := rfl
theorem s_13_17 {d : Nat} {σ : xS} {st : List Value} {Q : xR → xS → Prop} {l0 l1 l2 : Option Value} {x : Int32} : G d 13 17 [l0, l1, l2] (.int x :: st) σ Q ↔ if x = 0 then G d 13 23 [l0, l1, l2] st σ Q else G d 13 18 [l0, l1, l2] st σ Q := gs_if f_13_17 rfl
theorem f_13_18 : ft 13 18 = some (39, .aload_n 0, []) := rfl
theorem s_13_18 {d : Nat} {σ : xS} {st : List Value} {Q : xR → xS → Prop} {l1 l2 : Option Value} {x : Nat} : G d 13 18 [some (.ref x), l1, l2] st σ Q ↔ G d 13 19 [some (.ref x), l1, l2] (.ref x :: st) σ Q := gs_go f_13_18 rfl
theorem f_13_19 : ft 13 19 = some (40, .getfield 31, [2, 0, 0, 269]) := rfl
theorem s_13_19 {d : Nat} {t : yT} {st : List Value} {Q : xR → xS → Prop} {l0 l1 l2 : Option Value} {a : Nat} (ho : yisO 2 a) : G d 13 19 [l0, l1, l2] (.ref a :: st) (yemb t) Q ↔ G d 13 20 [l0, l1, l2] (.ref 1 :: st) (yemb t) Q := gs_getf (c := 2) (j := 0) (q := .c 1) f_13_19 ho rfl
theorem f_13_20 : ft 13 20 = some (43, .bipush 59, []) := rfl
theorem s_13_20 {d : Nat} {σ : xS} {st : List Value} {Q : xR → xS → Prop} {l0 l1 l2 : Option Value} : G d 13 20 [l0, l1, l2] st σ Q ↔ G d 13 21 [l0, l1, l2] (.int (59) :: st) σ Q := gs_go f_13_20 rfl
theorem f_13_21 : ft 13 21 = some (45, .invokevirtual 63, [87, 2, 0, 939]) := rfl
theorem s_13_21 {d : Nat} {t : yT} {st : List Value} {Q : xR → xS → Prop} {l0 l1 l2 : Option Value} {a0 : Nat} {a1 : Int32} (ho : yisO 6 a0) : G (d + 1) 13 21 [l0, l1, l2] (.int a1 :: .ref a0 :: st) (yemb t) Q ↔ xcat st ≤ 8 ∧ Cl d 87 [.ref a0, .int a1] (yemb t) (Gk (d + 1) 13 21 [l0, l1, l2] st Q) := gs_call f_13_21 ((xinv_call (i := 21) (n := 939) (ls := [l0, l1, l2]) (kind := 0) (σ := yemb t) (by decide)).trans (xcall_vi [.int a1, .ref a0] rfl rfl (show (2 : Nat) ≤ 2 by decide) rfl ho))
theorem f_13_22 : ft 13 22 = some (48, .ifCond .ne 5, [25]) := rfl
theorem s_13_22 {d : Nat} {σ : xS} {st : List Value} {Q : xR → xS → Prop} {l0 l1 l2 : Option Value} {x : Int32} : G d 13 22 [l0, l1, l2] (.int x :: st) σ Q ↔ if x ≠ 0 then G d 13 25 [l0, l1, l2] st σ Q else G d 13 23 [l0, l1, l2] st σ Q := gs_if f_13_22 rfl
theorem f_13_23 : ft 13 23 = some (51, .iconst 0, []) := rfl
theorem s_13_23 {d : Nat} {σ : xS} {st : List Value} {Q : xR → xS → Prop} {l0 l1 l2 : Option Value} : G d 13 23 [l0, l1, l2] st σ Q ↔ G d 13 24 [l0, l1, l2] (.int (0) :: st) σ Q := gs_go f_13_23 rfl
theorem f_13_24 : ft 13 24 = some (52, .ireturn, []) := rfl
theorem s_13_24 {d : Nat} {σ : xS} {ls : xL} {Q : xR → xS → Prop} {x : Int32} : G d 13 24 ls [.int x] σ Q ↔ ybo x ∧ Q (.inl (some (.int x))) σ := gs_retb f_13_24 rfl
theorem f_13_25 : ft 13 25 = some (53, .iinc 2 1, []) := rfl
theorem s_13_25 {d : Nat} {σ : xS} {st : List Value} {Q : xR → xS → Prop} {l0 l1 : Option Value} {x : Int32} : G d 13 25 [l0, l1, some (.int x)] st σ Q ↔ G d 13 26 [l0, ykl l1, some (.int (x + 1))] st σ Q := by
  cases l1 with
  | none => exact gs_go f_13_25 rfl
  | some v => cases v <;> exact gs_go f_13_25 rfl
theorem f_13_26 : ft 13 26 = some (56, .goto (-54), [2]) := rfl
theorem s_13_26 {d : Nat} {σ : xS} {st : List Value} {Q : xR → xS → Prop} {l0 l1 l2 : Option Value} : G d 13 26 [l0, l1, l2] st σ Q ↔ G d 13 2 [l0, l1, l2] st σ Q := gs_go f_13_26 rfl
theorem f_13_27 : ft 13 27 = some (59, .iconst 1, []) := rfl
theorem s_13_27 {d : Nat} {σ : xS} {st : List Value} {Q : xR → xS → Prop} {l0 l1 l2 : Option Value} : G d 13 27 [l0, l1, l2] st σ Q ↔ G d 13 28 [l0, l1, l2] (.int (1) :: st) σ Q := gs_go f_13_27 rfl
theorem f_13_28 : ft 13 28 = some (60, .ireturn, []) := rfl
theorem s_13_28 {d : Nat} {σ : xS} {ls : xL} {Q : xR → xS → Prop} {x : Int32} : G d 13 28 ls [.int x] σ Q ↔ ybo x ∧ Q (.inl (some (.int x))) σ := gs_retb f_13_28 rfl
theorem f_14_0 : ft 14 0 = some (0, .aload_n 0, []) := rfl
theorem s_14_0 {d : Nat} {σ : xS} {st : List Value} {Q : xR → xS → Prop} {l1 l2 l3 : Option Value} {x : Nat} : G d 14 0 [some (.ref x), l1, l2, l3] st σ Q ↔ G d 14 1 [some (.ref x), l1, l2, l3] (.ref x :: st) σ Q := gs_go f_14_0 rfl
theorem f_14_1 : ft 14 1 = some (1, .invokevirtual 66, [15, 1, 0, 919]) := rfl
theorem s_14_1 {d : Nat} {t : yT} {st : List Value} {Q : xR → xS → Prop} {l0 l1 l2 l3 : Option Value} {a0 : Nat} (ho : yisO 2 a0) : G (d + 1) 14 1 [l0, l1, l2, l3] (.ref a0 :: st) (yemb t) Q ↔ xcat st ≤ 8 ∧ Cl d 15 [.ref a0] (yemb t) (Gk (d + 1) 14 1 [l0, l1, l2, l3] st Q) := gs_call f_14_1 ((xinv_call (i := 1) (n := 919) (ls := [l0, l1, l2, l3]) (kind := 0) (σ := yemb t) (by decide)).trans (xcall_vi [.ref a0] rfl rfl (show (1 : Nat) ≤ 1 by decide) rfl ho))
theorem f_14_2 : ft 14 2 = some (4, .istore_n 2, []) := rfl
theorem s_14_2 {d : Nat} {σ : xS} {st : List Value} {Q : xR → xS → Prop} {l0 l1 l2 l3 : Option Value} {x : Int32} : G d 14 2 [l0, l1, l2, l3] (.int x :: st) σ Q ↔ G d 14 3 [l0, ykl l1, some (.int x), l3] st σ Q := by
  cases l1 with
  | none => exact gs_go f_14_2 rfl
  | some v => cases v <;> exact gs_go f_14_2 rfl
theorem f_14_3 : ft 14 3 = some (5, .iload_n 2, []) := rfl
theorem s_14_3 {d : Nat} {σ : xS} {st : List Value} {Q : xR → xS → Prop} {l0 l1 l3 : Option Value} {x : Int32} : G d 14 3 [l0, l1, some (.int x), l3] st σ Q ↔ G d 14 4 [l0, l1, some (.int x), l3] (.int x :: st) σ Q := gs_go f_14_3 rfl
theorem f_14_4 : ft 14 4 = some (6, .iconst (-1), []) := rfl
theorem s_14_4 {d : Nat} {σ : xS} {st : List Value} {Q : xR → xS → Prop} {l0 l1 l2 l3 : Option Value} : G d 14 4 [l0, l1, l2, l3] st σ Q ↔ G d 14 5 [l0, l1, l2, l3] (.int (-1) :: st) σ Q := gs_go f_14_4 rfl
theorem f_14_5 : ft 14 5 = some (7, .if_icmp .ne 13, [11]) := rfl
theorem s_14_5 {d : Nat} {σ : xS} {st : List Value} {Q : xR → xS → Prop} {l0 l1 l2 l3 : Option Value} {x y : Int32} : G d 14 5 [l0, l1, l2, l3] (.int y :: .int x :: st) σ Q ↔ if x ≠ y then G d 14 11 [l0, l1, l2, l3] st σ Q else G d 14 6 [l0, l1, l2, l3] st σ Q := gs_if f_14_5 rfl
theorem f_14_6 : ft 14 6 = some (10, .aload_n 0, []) := rfl
theorem s_14_6 {d : Nat} {σ : xS} {st : List Value} {Q : xR → xS → Prop} {l1 l2 l3 : Option Value} {x : Nat} : G d 14 6 [some (.ref x), l1, l2, l3] st σ Q ↔ G d 14 7 [some (.ref x), l1, l2, l3] (.ref x :: st) σ Q := gs_go f_14_6 rfl
theorem f_14_7 : ft 14 7 = some (11, .getfield 31, [2, 0, 0, 269]) := rfl
theorem s_14_7 {d : Nat} {t : yT} {st : List Value} {Q : xR → xS → Prop} {l0 l1 l2 l3 : Option Value} {a : Nat} (ho : yisO 2 a) : G d 14 7 [l0, l1, l2, l3] (.ref a :: st) (yemb t) Q ↔ G d 14 8 [l0, l1, l2, l3] (.ref 1 :: st) (yemb t) Q := gs_getf (c := 2) (j := 0) (q := .c 1) f_14_7 ho rfl
theorem f_14_8 : ft 14 8 = some (14, .bipush (-2), []) := rfl
theorem s_14_8 {d : Nat} {σ : xS} {st : List Value} {Q : xR → xS → Prop} {l0 l1 l2 l3 : Option Value} : G d 14 8 [l0, l1, l2, l3] st σ Q ↔ G d 14 9 [l0, l1, l2, l3] (.int (-2) :: st) σ Q := gs_go f_14_8 rfl
theorem f_14_9 : ft 14 9 = some (16, .invokevirtual 70, [90, 2, 0, 930]) := rfl
theorem s_14_9 {d : Nat} {t : yT} {st : List Value} {Q : xR → xS → Prop} {l0 l1 l2 l3 : Option Value} {a0 : Nat} {a1 : Int32} (ho : yisO 6 a0) : G (d + 1) 14 9 [l0, l1, l2, l3] (.int a1 :: .ref a0 :: st) (yemb t) Q ↔ xcat st ≤ 8 ∧ Cl d 90 [.ref a0, .int a1] (yemb t) (Gk (d + 1) 14 9 [l0, l1, l2, l3] st Q) := gs_call f_14_9 ((xinv_call (i := 9) (n := 930) (ls := [l0, l1, l2, l3]) (kind := 0) (σ := yemb t) (by decide)).trans (xcall_vi [.int a1, .ref a0] rfl rfl (show (2 : Nat) ≤ 2 by decide) rfl ho))
theorem f_14_10 : ft 14 10 = some (19, .ireturn, []) := rfl
theorem s_14_10 {d : Nat} {σ : xS} {ls : xL} {Q : xR → xS → Prop} {x : Int32} : G d 14 10 ls [.int x] σ Q ↔ ybo x ∧ Q (.inl (some (.int x))) σ := gs_retb f_14_10 rfl
theorem f_14_11 : ft 14 11 = some (20, .aload_n 0, []) := rfl
theorem s_14_11 {d : Nat} {σ : xS} {st : List Value} {Q : xR → xS → Prop} {l1 l2 l3 : Option Value} {x : Nat} : G d 14 11 [some (.ref x), l1, l2, l3] st σ Q ↔ G d 14 12 [some (.ref x), l1, l2, l3] (.ref x :: st) σ Q := gs_go f_14_11 rfl
theorem f_14_12 : ft 14 12 = some (21, .getfield 21, [2, 6, 0, 275]) := rfl
theorem s_14_12 {d : Nat} {t : yT} {st : List Value} {Q : xR → xS → Prop} {l0 l1 l2 l3 : Option Value} {a : Nat} (ho : yisO 2 a) : G d 14 12 [l0, l1, l2, l3] (.ref a :: st) (yemb t) Q ↔ G d 14 13 [l0, l1, l2, l3] (.int (t.A a 6) :: st) (yemb t) Q := gs_getf (c := 2) (j := 6) (q := .i) f_14_12 ho rfl
theorem f_14_13 : ft 14 13 = some (24, .bipush 60, []) := rfl
theorem s_14_13 {d : Nat} {σ : xS} {st : List Value} {Q : xR → xS → Prop} {l0 l1 l2 l3 : Option Value} : G d 14 13 [l0, l1, l2, l3] st σ Q ↔ G d 14 14 [l0, l1, l2, l3] (.int (60) :: st) σ Q := gs_go f_14_13 rfl
theorem f_14_14 : ft 14 14 = some (26, .if_icmp .lt 13, [20]) := rfl
theorem s_14_14 {d : Nat} {σ : xS} {st : List Value} {Q : xR → xS → Prop} {l0 l1 l2 l3 : Option Value} {x y : Int32} : G d 14 14 [l0, l1, l2, l3] (.int y :: .int x :: st) σ Q ↔ if x < y then G d 14 20 [l0, l1, l2, l3] st σ Q else G d 14 15 [l0, l1, l2, l3] st σ Q := gs_if f_14_14 rfl
theorem f_14_15 : ft 14 15 = some (29, .aload_n 0, []) := rfl
theorem s_14_15 {d : Nat} {σ : xS} {st : List Value} {Q : xR → xS → Prop} {l1 l2 l3 : Option Value} {x : Nat} : G d 14 15 [some (.ref x), l1, l2, l3] st σ Q ↔ G d 14 16 [some (.ref x), l1, l2, l3] (.ref x :: st) σ Q := gs_go f_14_15 rfl
theorem f_14_16 : ft 14 16 = some (30, .getfield 31, [2, 0, 0, 269]) := rfl
theorem s_14_16 {d : Nat} {t : yT} {st : List Value} {Q : xR → xS → Prop} {l0 l1 l2 l3 : Option Value} {a : Nat} (ho : yisO 2 a) : G d 14 16 [l0, l1, l2, l3] (.ref a :: st) (yemb t) Q ↔ G d 14 17 [l0, l1, l2, l3] (.ref 1 :: st) (yemb t) Q := gs_getf (c := 2) (j := 0) (q := .c 1) f_14_16 ho rfl
theorem f_14_17 : ft 14 17 = some (33, .bipush (-5), []) := rfl
theorem s_14_17 {d : Nat} {σ : xS} {st : List Value} {Q : xR → xS → Prop} {l0 l1 l2 l3 : Option Value} : G d 14 17 [l0, l1, l2, l3] st σ Q ↔ G d 14 18 [l0, l1, l2, l3] (.int (-5) :: st) σ Q := gs_go f_14_17 rfl
theorem f_14_18 : ft 14 18 = some (35, .invokevirtual 70, [90, 2, 0, 930]) := rfl
theorem s_14_18 {d : Nat} {t : yT} {st : List Value} {Q : xR → xS → Prop} {l0 l1 l2 l3 : Option Value} {a0 : Nat} {a1 : Int32} (ho : yisO 6 a0) : G (d + 1) 14 18 [l0, l1, l2, l3] (.int a1 :: .ref a0 :: st) (yemb t) Q ↔ xcat st ≤ 8 ∧ Cl d 90 [.ref a0, .int a1] (yemb t) (Gk (d + 1) 14 18 [l0, l1, l2, l3] st Q) := gs_call f_14_18 ((xinv_call (i := 18) (n := 930) (ls := [l0, l1, l2, l3]) (kind := 0) (σ := yemb t) (by decide)).trans (xcall_vi [.int a1, .ref a0] rfl rfl (show (2 : Nat) ≤ 2 by decide) rfl ho))
theorem f_14_19 : ft 14 19 = some (38, .ireturn, []) := rfl
theorem s_14_19 {d : Nat} {σ : xS} {ls : xL} {Q : xR → xS → Prop} {x : Int32} : G d 14 19 ls [.int x] σ Q ↔ ybo x ∧ Q (.inl (some (.int x))) σ := gs_retb f_14_19 rfl
theorem f_14_20 : ft 14 20 = some (39, .iload_n 2, []) := rfl
theorem s_14_20 {d : Nat} {σ : xS} {st : List Value} {Q : xR → xS → Prop} {l0 l1 l3 : Option Value} {x : Int32} : G d 14 20 [l0, l1, some (.int x), l3] st σ Q ↔ G d 14 21 [l0, l1, some (.int x), l3] (.int x :: st) σ Q := gs_go f_14_20 rfl
theorem f_14_21 : ft 14 21 = some (40, .iconst 5, []) := rfl
theorem s_14_21 {d : Nat} {σ : xS} {st : List Value} {Q : xR → xS → Prop} {l0 l1 l2 l3 : Option Value} : G d 14 21 [l0, l1, l2, l3] st σ Q ↔ G d 14 22 [l0, l1, l2, l3] (.int (5) :: st) σ Q := gs_go f_14_21 rfl
theorem f_14_22 : ft 14 22 = some (41, .if_icmp .ne 18, [31]) := rfl
theorem s_14_22 {d : Nat} {σ : xS} {st : List Value} {Q : xR → xS → Prop} {l0 l1 l2 l3 : Option Value} {x y : Int32} : G d 14 22 [l0, l1, l2, l3] (.int y :: .int x :: st) σ Q ↔ if x ≠ y then G d 14 31 [l0, l1, l2, l3] st σ Q else G d 14 23 [l0, l1, l2, l3] st σ Q := gs_if f_14_22 rfl
theorem f_14_23 : ft 14 23 = some (44, .iload_n 1, []) := rfl
theorem s_14_23 {d : Nat} {σ : xS} {st : List Value} {Q : xR → xS → Prop} {l0 l2 l3 : Option Value} {x : Int32} : G d 14 23 [l0, some (.int x), l2, l3] st σ Q ↔ G d 14 24 [l0, some (.int x), l2, l3] (.int x :: st) σ Q := gs_go f_14_23 rfl
theorem f_14_24 : ft 14 24 = some (45, .iconst 3, []) := rfl
theorem s_14_24 {d : Nat} {σ : xS} {st : List Value} {Q : xR → xS → Prop} {l0 l1 l2 l3 : Option Value} : G d 14 24 [l0, l1, l2, l3] st σ Q ↔ G d 14 25 [l0, l1, l2, l3] (.int (3) :: st) σ Q := gs_go f_14_24 rfl
theorem f_14_25 : ft 14 25 = some (46, .if_icmp .lt 13, [31]) := rfl
theorem s_14_25 {d : Nat} {σ : xS} {st : List Value} {Q : xR → xS → Prop} {l0 l1 l2 l3 : Option Value} {x y : Int32} : G d 14 25 [l0, l1, l2, l3] (.int y :: .int x :: st) σ Q ↔ if x < y then G d 14 31 [l0, l1, l2, l3] st σ Q else G d 14 26 [l0, l1, l2, l3] st σ Q := gs_if f_14_25 rfl
theorem f_14_26 : ft 14 26 = some (49, .aload_n 0, []) := rfl
theorem s_14_26 {d : Nat} {σ : xS} {st : List Value} {Q : xR → xS → Prop} {l1 l2 l3 : Option Value} {x : Nat} : G d 14 26 [some (.ref x), l1, l2, l3] st σ Q ↔ G d 14 27 [some (.ref x), l1, l2, l3] (.ref x :: st) σ Q := gs_go f_14_26 rfl
theorem f_14_27 : ft 14 27 = some (50, .getfield 31, [2, 0, 0, 269]) := rfl
theorem s_14_27 {d : Nat} {t : yT} {st : List Value} {Q : xR → xS → Prop} {l0 l1 l2 l3 : Option Value} {a : Nat} (ho : yisO 2 a) : G d 14 27 [l0, l1, l2, l3] (.ref a :: st) (yemb t) Q ↔ G d 14 28 [l0, l1, l2, l3] (.ref 1 :: st) (yemb t) Q := gs_getf (c := 2) (j := 0) (q := .c 1) f_14_27 ho rfl
theorem f_14_28 : ft 14 28 = some (53, .bipush (-6), []) := rfl
theorem s_14_28 {d : Nat} {σ : xS} {st : List Value} {Q : xR → xS → Prop} {l0 l1 l2 l3 : Option Value} : G d 14 28 [l0, l1, l2, l3] st σ Q ↔ G d 14 29 [l0, l1, l2, l3] (.int (-6) :: st) σ Q := gs_go f_14_28 rfl
theorem f_14_29 : ft 14 29 = some (55, .invokevirtual 70, [90, 2, 0, 930]) := rfl
theorem s_14_29 {d : Nat} {t : yT} {st : List Value} {Q : xR → xS → Prop} {l0 l1 l2 l3 : Option Value} {a0 : Nat} {a1 : Int32} (ho : yisO 6 a0) : G (d + 1) 14 29 [l0, l1, l2, l3] (.int a1 :: .ref a0 :: st) (yemb t) Q ↔ xcat st ≤ 8 ∧ Cl d 90 [.ref a0, .int a1] (yemb t) (Gk (d + 1) 14 29 [l0, l1, l2, l3] st Q) := gs_call f_14_29 ((xinv_call (i := 29) (n := 930) (ls := [l0, l1, l2, l3]) (kind := 0) (σ := yemb t) (by decide)).trans (xcall_vi [.int a1, .ref a0] rfl rfl (show (2 : Nat) ≤ 2 by decide) rfl ho))
theorem f_14_30 : ft 14 30 = some (58, .ireturn, []) := rfl
theorem s_14_30 {d : Nat} {σ : xS} {ls : xL} {Q : xR → xS → Prop} {x : Int32} : G d 14 30 ls [.int x] σ Q ↔ ybo x ∧ Q (.inl (some (.int x))) σ := gs_retb f_14_30 rfl
theorem f_14_31 : ft 14 31 = some (59, .aload_n 0, []) := rfl
theorem s_14_31 {d : Nat} {σ : xS} {st : List Value} {Q : xR → xS → Prop} {l1 l2 l3 : Option Value} {x : Nat} : G d 14 31 [some (.ref x), l1, l2, l3] st σ Q ↔ G d 14 32 [some (.ref x), l1, l2, l3] (.ref x :: st) σ Q := gs_go f_14_31 rfl
theorem f_14_32 : ft 14 32 = some (60, .getfield 31, [2, 0, 0, 269]) := rfl
theorem s_14_32 {d : Nat} {t : yT} {st : List Value} {Q : xR → xS → Prop} {l0 l1 l2 l3 : Option Value} {a : Nat} (ho : yisO 2 a) : G d 14 32 [l0, l1, l2, l3] (.ref a :: st) (yemb t) Q ↔ G d 14 33 [l0, l1, l2, l3] (.ref 1 :: st) (yemb t) Q := gs_getf (c := 2) (j := 0) (q := .c 1) f_14_32 ho rfl
theorem f_14_33 : ft 14 33 = some (63, .invokevirtual 73, [80, 1, 0, 931]) := rfl
theorem s_14_33 {d : Nat} {t : yT} {st : List Value} {Q : xR → xS → Prop} {l0 l1 l2 l3 : Option Value} {a0 : Nat} (ho : yisO 6 a0) : G (d + 1) 14 33 [l0, l1, l2, l3] (.ref a0 :: st) (yemb t) Q ↔ xcat st ≤ 8 ∧ Cl d 80 [.ref a0] (yemb t) (Gk (d + 1) 14 33 [l0, l1, l2, l3] st Q) := gs_call f_14_33 ((xinv_call (i := 33) (n := 931) (ls := [l0, l1, l2, l3]) (kind := 0) (σ := yemb t) (by decide)).trans (xcall_vi [.ref a0] rfl rfl (show (1 : Nat) ≤ 1 by decide) rfl ho))
theorem f_14_34 : ft 14 34 = some (66, .aload_n 0, []) := rfl
theorem s_14_34 {d : Nat} {σ : xS} {st : List Value} {Q : xR → xS → Prop} {l1 l2 l3 : Option Value} {x : Nat} : G d 14 34 [some (.ref x), l1, l2, l3] st σ Q ↔ G d 14 35 [some (.ref x), l1, l2, l3] (.ref x :: st) σ Q := gs_go f_14_34 rfl
theorem f_14_35 : ft 14 35 = some (67, .getfield 21, [2, 6, 0, 275]) := rfl
theorem s_14_35 {d : Nat} {t : yT} {st : List Value} {Q : xR → xS → Prop} {l0 l1 l2 l3 : Option Value} {a : Nat} (ho : yisO 2 a) : G d 14 35 [l0, l1, l2, l3] (.ref a :: st) (yemb t) Q ↔ G d 14 36 [l0, l1, l2, l3] (.int (t.A a 6) :: st) (yemb t) Q := gs_getf (c := 2) (j := 6) (q := .i) f_14_35 ho rfl
theorem f_14_36 : ft 14 36 = some (70, .istore_n 3, []) := rfl
theorem s_14_36 {d : Nat} {σ : xS} {st : List Value} {Q : xR → xS → Prop} {l0 l1 l2 l3 : Option Value} {x : Int32} : G d 14 36 [l0, l1, l2, l3] (.int x :: st) σ Q ↔ G d 14 37 [l0, l1, ykl l2, some (.int x)] st σ Q := by
  cases l2 with
  | none => exact gs_go f_14_36 rfl
  | some v => cases v <;> exact gs_go f_14_36 rfl
theorem f_14_37 : ft 14 37 = some (71, .aload_n 0, []) := rfl
theorem s_14_37 {d : Nat} {σ : xS} {st : List Value} {Q : xR → xS → Prop} {l1 l2 l3 : Option Value} {x : Nat} : G d 14 37 [some (.ref x), l1, l2, l3] st σ Q ↔ G d 14 38 [some (.ref x), l1, l2, l3] (.ref x :: st) σ Q := gs_go f_14_37 rfl
theorem f_14_38 : ft 14 38 = some (72, .dup, []) := rfl
theorem s_14_38 {d : Nat} {σ : xS} {st : List Value} {Q : xR → xS → Prop} {l0 l1 l2 l3 : Option Value} {x : Nat} : G d 14 38 [l0, l1, l2, l3] (.ref x :: st) σ Q ↔ G d 14 39 [l0, l1, l2, l3] (.ref x :: .ref x :: st) σ Q := gs_go f_14_38 rfl
theorem s_14_38i {d : Nat} {σ : xS} {st : List Value} {Q : xR → xS → Prop} {l0 l1 l2 l3 : Option Value} {x : Int32} : G d 14 38 [l0, l1, l2, l3] (.int x :: st) σ Q ↔ G d 14 39 [l0, l1, l2, l3] (.int x :: .int x :: st) σ Q := gs_go f_14_38 rfl
theorem f_14_39 : ft 14 39 = some (73, .getfield 21, [2, 6, 0, 275]) := rfl
theorem s_14_39 {d : Nat} {t : yT} {st : List Value} {Q : xR → xS → Prop} {l0 l1 l2 l3 : Option Value} {a : Nat} (ho : yisO 2 a) : G d 14 39 [l0, l1, l2, l3] (.ref a :: st) (yemb t) Q ↔ G d 14 40 [l0, l1, l2, l3] (.int (t.A a 6) :: st) (yemb t) Q := gs_getf (c := 2) (j := 6) (q := .i) f_14_39 ho rfl
theorem f_14_40 : ft 14 40 = some (76, .iconst 1, []) := rfl
theorem s_14_40 {d : Nat} {σ : xS} {st : List Value} {Q : xR → xS → Prop} {l0 l1 l2 l3 : Option Value} : G d 14 40 [l0, l1, l2, l3] st σ Q ↔ G d 14 41 [l0, l1, l2, l3] (.int (1) :: st) σ Q := gs_go f_14_40 rfl
theorem f_14_41 : ft 14 41 = some (77, .iadd, []) := rfl
theorem s_14_41 {d : Nat} {σ : xS} {st : List Value} {Q : xR → xS → Prop} {l0 l1 l2 l3 : Option Value} {x y : Int32} : G d 14 41 [l0, l1, l2, l3] (.int y :: .int x :: st) σ Q ↔ G d 14 42 [l0, l1, l2, l3] (.int (x + y) :: st) σ Q := gs_go f_14_41 rfl
theorem f_14_42 : ft 14 42 = some (78, .putfield 21, [2, 6, 0, 275]) := rfl
theorem s_14_42 {d : Nat} {t : yT} {st : List Value} {Q : xR → xS → Prop} {l0 l1 l2 l3 : Option Value} {a : Nat} {x : Int32} (ho : yisO 2 a) : G d 14 42 [l0, l1, l2, l3] (.int x :: .ref a :: st) (yemb t) Q ↔ G d 14 43 [l0, l1, l2, l3] st (yemb (t.s1 a 6 x)) Q := gs_putI (c := 2) (j := 6) f_14_42 (fun _ => rfl) rfl rfl ho
theorem f_14_43 : ft 14 43 = some (81, .aload_n 0, []) := rfl
theorem s_14_43 {d : Nat} {σ : xS} {st : List Value} {Q : xR → xS → Prop} {l1 l2 l3 : Option Value} {x : Nat} : G d 14 43 [some (.ref x), l1, l2, l3] st σ Q ↔ G d 14 44 [some (.ref x), l1, l2, l3] (.ref x :: st) σ Q := gs_go f_14_43 rfl
theorem f_14_44 : ft 14 44 = some (82, .getfield 11, [2, 3, 0, 272]) := rfl
theorem s_14_44 {d : Nat} {t : yT} {st : List Value} {Q : xR → xS → Prop} {l0 l1 l2 l3 : Option Value} {a : Nat} (ho : yisO 2 a) : G d 14 44 [l0, l1, l2, l3] (.ref a :: st) (yemb t) Q ↔ G d 14 45 [l0, l1, l2, l3] (.ref 35 :: st) (yemb t) Q := gs_getf (c := 2) (j := 3) (q := .c 35) f_14_44 ho rfl
theorem f_14_45 : ft 14 45 = some (85, .iload_n 3, []) := rfl
theorem s_14_45 {d : Nat} {σ : xS} {st : List Value} {Q : xR → xS → Prop} {l0 l1 l2 : Option Value} {x : Int32} : G d 14 45 [l0, l1, l2, some (.int x)] st σ Q ↔ G d 14 46 [l0, l1, l2, some (.int x)] (.int x :: st) σ Q := gs_go f_14_45 rfl
theorem f_14_46 : ft 14 46 = some (86, .iload_n 2, []) := rfl
theorem s_14_46 {d : Nat} {σ : xS} {st : List Value} {Q : xR → xS → Prop} {l0 l1 l3 : Option Value} {x : Int32} : G d 14 46 [l0, l1, some (.int x), l3] st σ Q ↔ G d 14 47 [l0, l1, some (.int x), l3] (.int x :: st) σ Q := gs_go f_14_46 rfl
theorem f_14_47 : ft 14 47 = some (87, .iastore, []) := rfl
theorem s_14_47 {d : Nat} {t : yT} {st : List Value} {Q : xR → xS → Prop} {l0 l1 l2 l3 : Option Value} {a : Nat} {x v : Int32} (ha : yA 0 a) : G d 14 47 [l0, l1, l2, l3] (.int v :: .int x :: .ref a :: st) (yemb t) Q ↔ yix x (yn a) ∧ G d 14 48 [l0, l1, l2, l3] st (yemb (t.s1 a x.toNatClampNeg v)) Q := gs_iast f_14_47 ha
theorem f_14_48 : ft 14 48 = some (88, .aload_n 0, []) := rfl
theorem s_14_48 {d : Nat} {σ : xS} {st : List Value} {Q : xR → xS → Prop} {l1 l2 l3 : Option Value} {x : Nat} : G d 14 48 [some (.ref x), l1, l2, l3] st σ Q ↔ G d 14 49 [some (.ref x), l1, l2, l3] (.ref x :: st) σ Q := gs_go f_14_48 rfl
theorem f_14_49 : ft 14 49 = some (89, .iload_n 3, []) := rfl
theorem s_14_49 {d : Nat} {σ : xS} {st : List Value} {Q : xR → xS → Prop} {l0 l1 l2 : Option Value} {x : Int32} : G d 14 49 [l0, l1, l2, some (.int x)] st σ Q ↔ G d 14 50 [l0, l1, l2, some (.int x)] (.int x :: st) σ Q := gs_go f_14_49 rfl
theorem f_14_50 : ft 14 50 = some (90, .invokevirtual 76, [16, 2, 0, 932]) := rfl
theorem s_14_50 {d : Nat} {t : yT} {st : List Value} {Q : xR → xS → Prop} {l0 l1 l2 l3 : Option Value} {a0 : Nat} {a1 : Int32} (ho : yisO 2 a0) : G (d + 1) 14 50 [l0, l1, l2, l3] (.int a1 :: .ref a0 :: st) (yemb t) Q ↔ xcat st ≤ 8 ∧ Cl d 16 [.ref a0, .int a1] (yemb t) (Gk (d + 1) 14 50 [l0, l1, l2, l3] st Q) := gs_call f_14_50 ((xinv_call (i := 50) (n := 932) (ls := [l0, l1, l2, l3]) (kind := 0) (σ := yemb t) (by decide)).trans (xcall_vi [.int a1, .ref a0] rfl rfl (show (2 : Nat) ≤ 5 by decide) rfl ho))
theorem f_14_51 : ft 14 51 = some (93, .ifCond .ne 5, [54]) := rfl
theorem s_14_51 {d : Nat} {σ : xS} {st : List Value} {Q : xR → xS → Prop} {l0 l1 l2 l3 : Option Value} {x : Int32} : G d 14 51 [l0, l1, l2, l3] (.int x :: st) σ Q ↔ if x ≠ 0 then G d 14 54 [l0, l1, l2, l3] st σ Q else G d 14 52 [l0, l1, l2, l3] st σ Q := gs_if f_14_51 rfl
theorem f_14_52 : ft 14 52 = some (96, .iconst 0, []) := rfl
theorem s_14_52 {d : Nat} {σ : xS} {st : List Value} {Q : xR → xS → Prop} {l0 l1 l2 l3 : Option Value} : G d 14 52 [l0, l1, l2, l3] st σ Q ↔ G d 14 53 [l0, l1, l2, l3] (.int (0) :: st) σ Q := gs_go f_14_52 rfl
theorem f_14_53 : ft 14 53 = some (97, .ireturn, []) := rfl
theorem s_14_53 {d : Nat} {σ : xS} {ls : xL} {Q : xR → xS → Prop} {x : Int32} : G d 14 53 ls [.int x] σ Q ↔ ybo x ∧ Q (.inl (some (.int x))) σ := gs_retb f_14_53 rfl
theorem f_14_54 : ft 14 54 = some (98, .iload_n 2, []) := rfl
theorem s_14_54 {d : Nat} {σ : xS} {st : List Value} {Q : xR → xS → Prop} {l0 l1 l3 : Option Value} {x : Int32} : G d 14 54 [l0, l1, some (.int x), l3] st σ Q ↔ G d 14 55 [l0, l1, some (.int x), l3] (.int x :: st) σ Q := gs_go f_14_54 rfl
theorem f_14_55 : ft 14 55 = some (99, .iconst 5, []) := rfl
theorem s_14_55 {d : Nat} {σ : xS} {st : List Value} {Q : xR → xS → Prop} {l0 l1 l2 l3 : Option Value} : G d 14 55 [l0, l1, l2, l3] st σ Q ↔ G d 14 56 [l0, l1, l2, l3] (.int (5) :: st) σ Q := gs_go f_14_55 rfl
theorem f_14_56 : ft 14 56 = some (100, .if_icmp .ne 39, [75]) := rfl
theorem s_14_56 {d : Nat} {σ : xS} {st : List Value} {Q : xR → xS → Prop} {l0 l1 l2 l3 : Option Value} {x y : Int32} : G d 14 56 [l0, l1, l2, l3] (.int y :: .int x :: st) σ Q ↔ if x ≠ y then G d 14 75 [l0, l1, l2, l3] st σ Q else G d 14 57 [l0, l1, l2, l3] st σ Q := gs_if f_14_56 rfl
theorem f_14_57 : ft 14 57 = some (103, .aload_n 0, []) := rfl
theorem s_14_57 {d : Nat} {σ : xS} {st : List Value} {Q : xR → xS → Prop} {l1 l2 l3 : Option Value} {x : Nat} : G d 14 57 [some (.ref x), l1, l2, l3] st σ Q ↔ G d 14 58 [some (.ref x), l1, l2, l3] (.ref x :: st) σ Q := gs_go f_14_57 rfl
theorem f_14_58 : ft 14 58 = some (104, .getfield 31, [2, 0, 0, 269]) := rfl
theorem s_14_58 {d : Nat} {t : yT} {st : List Value} {Q : xR → xS → Prop} {l0 l1 l2 l3 : Option Value} {a : Nat} (ho : yisO 2 a) : G d 14 58 [l0, l1, l2, l3] (.ref a :: st) (yemb t) Q ↔ G d 14 59 [l0, l1, l2, l3] (.ref 1 :: st) (yemb t) Q := gs_getf (c := 2) (j := 0) (q := .c 1) f_14_58 ho rfl
theorem f_14_59 : ft 14 59 = some (107, .bipush 40, []) := rfl
theorem s_14_59 {d : Nat} {σ : xS} {st : List Value} {Q : xR → xS → Prop} {l0 l1 l2 l3 : Option Value} : G d 14 59 [l0, l1, l2, l3] st σ Q ↔ G d 14 60 [l0, l1, l2, l3] (.int (40) :: st) σ Q := gs_go f_14_59 rfl
theorem f_14_60 : ft 14 60 = some (109, .invokevirtual 63, [87, 2, 0, 939]) := rfl
theorem s_14_60 {d : Nat} {t : yT} {st : List Value} {Q : xR → xS → Prop} {l0 l1 l2 l3 : Option Value} {a0 : Nat} {a1 : Int32} (ho : yisO 6 a0) : G (d + 1) 14 60 [l0, l1, l2, l3] (.int a1 :: .ref a0 :: st) (yemb t) Q ↔ xcat st ≤ 8 ∧ Cl d 87 [.ref a0, .int a1] (yemb t) (Gk (d + 1) 14 60 [l0, l1, l2, l3] st Q) := gs_call f_14_60 ((xinv_call (i := 60) (n := 939) (ls := [l0, l1, l2, l3]) (kind := 0) (σ := yemb t) (by decide)).trans (xcall_vi [.int a1, .ref a0] rfl rfl (show (2 : Nat) ≤ 2 by decide) rfl ho))
theorem f_14_61 : ft 14 61 = some (112, .ifCond .eq 25, [73]) := rfl
theorem s_14_61 {d : Nat} {σ : xS} {st : List Value} {Q : xR → xS → Prop} {l0 l1 l2 l3 : Option Value} {x : Int32} : G d 14 61 [l0, l1, l2, l3] (.int x :: st) σ Q ↔ if x = 0 then G d 14 73 [l0, l1, l2, l3] st σ Q else G d 14 62 [l0, l1, l2, l3] st σ Q := gs_if f_14_61 rfl
theorem f_14_62 : ft 14 62 = some (115, .aload_n 0, []) := rfl
theorem s_14_62 {d : Nat} {σ : xS} {st : List Value} {Q : xR → xS → Prop} {l1 l2 l3 : Option Value} {x : Nat} : G d 14 62 [some (.ref x), l1, l2, l3] st σ Q ↔ G d 14 63 [some (.ref x), l1, l2, l3] (.ref x :: st) σ Q := gs_go f_14_62 rfl
theorem f_14_63 : ft 14 63 = some (116, .iload_n 1, []) := rfl
theorem s_14_63 {d : Nat} {σ : xS} {st : List Value} {Q : xR → xS → Prop} {l0 l2 l3 : Option Value} {x : Int32} : G d 14 63 [l0, some (.int x), l2, l3] st σ Q ↔ G d 14 64 [l0, some (.int x), l2, l3] (.int x :: st) σ Q := gs_go f_14_63 rfl
theorem f_14_64 : ft 14 64 = some (117, .iconst 1, []) := rfl
theorem s_14_64 {d : Nat} {σ : xS} {st : List Value} {Q : xR → xS → Prop} {l0 l1 l2 l3 : Option Value} : G d 14 64 [l0, l1, l2, l3] st σ Q ↔ G d 14 65 [l0, l1, l2, l3] (.int (1) :: st) σ Q := gs_go f_14_64 rfl
theorem f_14_65 : ft 14 65 = some (118, .iadd, []) := rfl
theorem s_14_65 {d : Nat} {σ : xS} {st : List Value} {Q : xR → xS → Prop} {l0 l1 l2 l3 : Option Value} {x y : Int32} : G d 14 65 [l0, l1, l2, l3] (.int y :: .int x :: st) σ Q ↔ G d 14 66 [l0, l1, l2, l3] (.int (x + y) :: st) σ Q := gs_go f_14_65 rfl
theorem f_14_66 : ft 14 66 = some (119, .invokevirtual 43, [13, 2, 0, 909]) := rfl
theorem s_14_66 {d : Nat} {t : yT} {st : List Value} {Q : xR → xS → Prop} {l0 l1 l2 l3 : Option Value} {a0 : Nat} {a1 : Int32} (ho : yisO 2 a0) : G (d + 1) 14 66 [l0, l1, l2, l3] (.int a1 :: .ref a0 :: st) (yemb t) Q ↔ xcat st ≤ 8 ∧ Cl d 13 [.ref a0, .int a1] (yemb t) (Gk (d + 1) 14 66 [l0, l1, l2, l3] st Q) := gs_call f_14_66 ((xinv_call (i := 66) (n := 909) (ls := [l0, l1, l2, l3]) (kind := 0) (σ := yemb t) (by decide)).trans (xcall_vi [.int a1, .ref a0] rfl rfl (show (2 : Nat) ≤ 3 by decide) rfl ho))
theorem f_14_67 : ft 14 67 = some (122, .ifCond .eq 15, [73]) := rfl
theorem s_14_67 {d : Nat} {σ : xS} {st : List Value} {Q : xR → xS → Prop} {l0 l1 l2 l3 : Option Value} {x : Int32} : G d 14 67 [l0, l1, l2, l3] (.int x :: st) σ Q ↔ if x = 0 then G d 14 73 [l0, l1, l2, l3] st σ Q else G d 14 68 [l0, l1, l2, l3] st σ Q := gs_if f_14_67 rfl
theorem f_14_68 : ft 14 68 = some (125, .aload_n 0, []) := rfl
theorem s_14_68 {d : Nat} {σ : xS} {st : List Value} {Q : xR → xS → Prop} {l1 l2 l3 : Option Value} {x : Nat} : G d 14 68 [some (.ref x), l1, l2, l3] st σ Q ↔ G d 14 69 [some (.ref x), l1, l2, l3] (.ref x :: st) σ Q := gs_go f_14_68 rfl
theorem f_14_69 : ft 14 69 = some (126, .getfield 31, [2, 0, 0, 269]) := rfl
theorem s_14_69 {d : Nat} {t : yT} {st : List Value} {Q : xR → xS → Prop} {l0 l1 l2 l3 : Option Value} {a : Nat} (ho : yisO 2 a) : G d 14 69 [l0, l1, l2, l3] (.ref a :: st) (yemb t) Q ↔ G d 14 70 [l0, l1, l2, l3] (.ref 1 :: st) (yemb t) Q := gs_getf (c := 2) (j := 0) (q := .c 1) f_14_69 ho rfl
theorem f_14_70 : ft 14 70 = some (129, .bipush 41, []) := rfl
theorem s_14_70 {d : Nat} {σ : xS} {st : List Value} {Q : xR → xS → Prop} {l0 l1 l2 l3 : Option Value} : G d 14 70 [l0, l1, l2, l3] st σ Q ↔ G d 14 71 [l0, l1, l2, l3] (.int (41) :: st) σ Q := gs_go f_14_70 rfl
theorem f_14_71 : ft 14 71 = some (131, .invokevirtual 63, [87, 2, 0, 939]) := rfl
theorem s_14_71 {d : Nat} {t : yT} {st : List Value} {Q : xR → xS → Prop} {l0 l1 l2 l3 : Option Value} {a0 : Nat} {a1 : Int32} (ho : yisO 6 a0) : G (d + 1) 14 71 [l0, l1, l2, l3] (.int a1 :: .ref a0 :: st) (yemb t) Q ↔ xcat st ≤ 8 ∧ Cl d 87 [.ref a0, .int a1] (yemb t) (Gk (d + 1) 14 71 [l0, l1, l2, l3] st Q) := gs_call f_14_71 ((xinv_call (i := 71) (n := 939) (ls := [l0, l1, l2, l3]) (kind := 0) (σ := yemb t) (by decide)).trans (xcall_vi [.int a1, .ref a0] rfl rfl (show (2 : Nat) ≤ 2 by decide) rfl ho))
theorem f_14_72 : ft 14 72 = some (134, .ifCond .ne 5, [75]) := rfl
theorem s_14_72 {d : Nat} {σ : xS} {st : List Value} {Q : xR → xS → Prop} {l0 l1 l2 l3 : Option Value} {x : Int32} : G d 14 72 [l0, l1, l2, l3] (.int x :: st) σ Q ↔ if x ≠ 0 then G d 14 75 [l0, l1, l2, l3] st σ Q else G d 14 73 [l0, l1, l2, l3] st σ Q := gs_if f_14_72 rfl
theorem f_14_73 : ft 14 73 = some (137, .iconst 0, []) := rfl
theorem s_14_73 {d : Nat} {σ : xS} {st : List Value} {Q : xR → xS → Prop} {l0 l1 l2 l3 : Option Value} : G d 14 73 [l0, l1, l2, l3] st σ Q ↔ G d 14 74 [l0, l1, l2, l3] (.int (0) :: st) σ Q := gs_go f_14_73 rfl
theorem f_14_74 : ft 14 74 = some (138, .ireturn, []) := rfl
theorem s_14_74 {d : Nat} {σ : xS} {ls : xL} {Q : xR → xS → Prop} {x : Int32} : G d 14 74 ls [.int x] σ Q ↔ ybo x ∧ Q (.inl (some (.int x))) σ := gs_retb f_14_74 rfl
theorem f_14_75 : ft 14 75 = some (139, .aload_n 0, []) := rfl
theorem s_14_75 {d : Nat} {σ : xS} {st : List Value} {Q : xR → xS → Prop} {l1 l2 l3 : Option Value} {x : Nat} : G d 14 75 [some (.ref x), l1, l2, l3] st σ Q ↔ G d 14 76 [some (.ref x), l1, l2, l3] (.ref x :: st) σ Q := gs_go f_14_75 rfl
theorem f_14_76 : ft 14 76 = some (140, .getfield 18, [2, 5, 0, 274]) := rfl
theorem s_14_76 {d : Nat} {t : yT} {st : List Value} {Q : xR → xS → Prop} {l0 l1 l2 l3 : Option Value} {a : Nat} (ho : yisO 2 a) : G d 14 76 [l0, l1, l2, l3] (.ref a :: st) (yemb t) Q ↔ G d 14 77 [l0, l1, l2, l3] (.ref 37 :: st) (yemb t) Q := gs_getf (c := 2) (j := 5) (q := .c 37) f_14_76 ho rfl
theorem f_14_77 : ft 14 77 = some (143, .iload_n 3, []) := rfl
theorem s_14_77 {d : Nat} {σ : xS} {st : List Value} {Q : xR → xS → Prop} {l0 l1 l2 : Option Value} {x : Int32} : G d 14 77 [l0, l1, l2, some (.int x)] st σ Q ↔ G d 14 78 [l0, l1, l2, some (.int x)] (.int x :: st) σ Q := gs_go f_14_77 rfl
theorem f_14_78 : ft 14 78 = some (144, .aload_n 0, []) := rfl
theorem s_14_78 {d : Nat} {σ : xS} {st : List Value} {Q : xR → xS → Prop} {l1 l2 l3 : Option Value} {x : Nat} : G d 14 78 [some (.ref x), l1, l2, l3] st σ Q ↔ G d 14 79 [some (.ref x), l1, l2, l3] (.ref x :: st) σ Q := gs_go f_14_78 rfl
theorem f_14_79 : ft 14 79 = some (145, .getfield 21, [2, 6, 0, 275]) := rfl
theorem s_14_79 {d : Nat} {t : yT} {st : List Value} {Q : xR → xS → Prop} {l0 l1 l2 l3 : Option Value} {a : Nat} (ho : yisO 2 a) : G d 14 79 [l0, l1, l2, l3] (.ref a :: st) (yemb t) Q ↔ G d 14 80 [l0, l1, l2, l3] (.int (t.A a 6) :: st) (yemb t) Q := gs_getf (c := 2) (j := 6) (q := .i) f_14_79 ho rfl
theorem f_14_80 : ft 14 80 = some (148, .iastore, []) := rfl
theorem s_14_80 {d : Nat} {t : yT} {st : List Value} {Q : xR → xS → Prop} {l0 l1 l2 l3 : Option Value} {a : Nat} {x v : Int32} (ha : yA 0 a) : G d 14 80 [l0, l1, l2, l3] (.int v :: .int x :: .ref a :: st) (yemb t) Q ↔ yix x (yn a) ∧ G d 14 81 [l0, l1, l2, l3] st (yemb (t.s1 a x.toNatClampNeg v)) Q := gs_iast f_14_80 ha
theorem f_14_81 : ft 14 81 = some (149, .iconst 1, []) := rfl
theorem s_14_81 {d : Nat} {σ : xS} {st : List Value} {Q : xR → xS → Prop} {l0 l1 l2 l3 : Option Value} : G d 14 81 [l0, l1, l2, l3] st σ Q ↔ G d 14 82 [l0, l1, l2, l3] (.int (1) :: st) σ Q := gs_go f_14_81 rfl
theorem f_14_82 : ft 14 82 = some (150, .ireturn, []) := rfl
theorem s_14_82 {d : Nat} {σ : xS} {ls : xL} {Q : xR → xS → Prop} {x : Int32} : G d 14 82 ls [.int x] σ Q ↔ ybo x ∧ Q (.inl (some (.int x))) σ := gs_retb f_14_82 rfl
theorem f_15_0 : ft 15 0 = some (0, .aload_n 0, []) := rfl
theorem s_15_0 {d : Nat} {σ : xS} {st : List Value} {Q : xR → xS → Prop} {x : Nat} : G d 15 0 [some (.ref x)] st σ Q ↔ G d 15 1 [some (.ref x)] (.ref x :: st) σ Q := gs_go f_15_0 rfl
theorem f_15_1 : ft 15 1 = some (1, .getfield 31, [2, 0, 0, 269]) := rfl
theorem s_15_1 {d : Nat} {t : yT} {st : List Value} {Q : xR → xS → Prop} {l0 : Option Value} {a : Nat} (ho : yisO 2 a) : G d 15 1 [l0] (.ref a :: st) (yemb t) Q ↔ G d 15 2 [l0] (.ref 1 :: st) (yemb t) Q := gs_getf (c := 2) (j := 0) (q := .c 1) f_15_1 ho rfl
theorem f_15_2 : ft 15 2 = some (4, .ldc 79, [1, 6, 923]) := rfl
theorem s_15_2 {d : Nat} {σ : xS} {st : List Value} {Q : xR → xS → Prop} {l0 : Option Value} : G d 15 2 [l0] st σ Q ↔ G d 15 3 [l0] (.ref 1000106 :: st) σ Q := gs_go f_15_2 rfl
theorem f_15_3 : ft 15 3 = some (6, .invokevirtual 81, [85, 2, 0, 924]) := rfl
theorem s_15_3 {d : Nat} {t : yT} {st : List Value} {Q : xR → xS → Prop} {l0 : Option Value} {a0 : Nat} {a1 : Nat} (ho : yisO 6 a0) : G (d + 1) 15 3 [l0] (.ref a1 :: .ref a0 :: st) (yemb t) Q ↔ xcat st ≤ 8 ∧ Cl d 85 [.ref a0, .ref a1] (yemb t) (Gk (d + 1) 15 3 [l0] st Q) := gs_call f_15_3 ((xinv_call (i := 3) (n := 924) (ls := [l0]) (kind := 0) (σ := yemb t) (by decide)).trans (xcall_vi [.ref a1, .ref a0] rfl rfl (show (2 : Nat) ≤ 3 by decide) rfl ho))
theorem f_15_4 : ft 15 4 = some (9, .ifCond .eq 5, [7]) := rfl
theorem s_15_4 {d : Nat} {σ : xS} {st : List Value} {Q : xR → xS → Prop} {l0 : Option Value} {x : Int32} : G d 15 4 [l0] (.int x :: st) σ Q ↔ if x = 0 then G d 15 7 [l0] st σ Q else G d 15 5 [l0] st σ Q := gs_if f_15_4 rfl
theorem f_15_5 : ft 15 5 = some (12, .iconst 0, []) := rfl
theorem s_15_5 {d : Nat} {σ : xS} {st : List Value} {Q : xR → xS → Prop} {l0 : Option Value} : G d 15 5 [l0] st σ Q ↔ G d 15 6 [l0] (.int (0) :: st) σ Q := gs_go f_15_5 rfl
theorem f_15_6 : ft 15 6 = some (13, .ireturn, []) := rfl
theorem s_15_6 {d : Nat} {σ : xS} {ls : xL} {Q : xR → xS → Prop} {x : Int32} : G d 15 6 ls [.int x] σ Q ↔ Q (.inl (some (.int x))) σ := gs_reti f_15_6 rfl
theorem f_15_7 : ft 15 7 = some (14, .aload_n 0, []) := rfl
theorem s_15_7 {d : Nat} {σ : xS} {st : List Value} {Q : xR → xS → Prop} {x : Nat} : G d 15 7 [some (.ref x)] st σ Q ↔ G d 15 8 [some (.ref x)] (.ref x :: st) σ Q := gs_go f_15_7 rfl
theorem f_15_8 : ft 15 8 = some (15, .getfield 31, [2, 0, 0, 269]) := rfl
theorem s_15_8 {d : Nat} {t : yT} {st : List Value} {Q : xR → xS → Prop} {l0 : Option Value} {a : Nat} (ho : yisO 2 a) : G d 15 8 [l0] (.ref a :: st) (yemb t) Q ↔ G d 15 9 [l0] (.ref 1 :: st) (yemb t) Q := gs_getf (c := 2) (j := 0) (q := .c 1) f_15_8 ho rfl
theorem f_15_9 : ft 15 9 = some (18, .ldc 85, [1, 9, 925]) := rfl
theorem s_15_9 {d : Nat} {σ : xS} {st : List Value} {Q : xR → xS → Prop} {l0 : Option Value} : G d 15 9 [l0] st σ Q ↔ G d 15 10 [l0] (.ref 1000109 :: st) σ Q := gs_go f_15_9 rfl
theorem f_15_10 : ft 15 10 = some (20, .invokevirtual 81, [85, 2, 0, 924]) := rfl
theorem s_15_10 {d : Nat} {t : yT} {st : List Value} {Q : xR → xS → Prop} {l0 : Option Value} {a0 : Nat} {a1 : Nat} (ho : yisO 6 a0) : G (d + 1) 15 10 [l0] (.ref a1 :: .ref a0 :: st) (yemb t) Q ↔ xcat st ≤ 8 ∧ Cl d 85 [.ref a0, .ref a1] (yemb t) (Gk (d + 1) 15 10 [l0] st Q) := gs_call f_15_10 ((xinv_call (i := 10) (n := 924) (ls := [l0]) (kind := 0) (σ := yemb t) (by decide)).trans (xcall_vi [.ref a1, .ref a0] rfl rfl (show (2 : Nat) ≤ 3 by decide) rfl ho))
theorem f_15_11 : ft 15 11 = some (23, .ifCond .eq 5, [14]) := rfl
theorem s_15_11 {d : Nat} {σ : xS} {st : List Value} {Q : xR → xS → Prop} {l0 : Option Value} {x : Int32} : G d 15 11 [l0] (.int x :: st) σ Q ↔ if x = 0 then G d 15 14 [l0] st σ Q else G d 15 12 [l0] st σ Q := gs_if f_15_11 rfl
theorem f_15_12 : ft 15 12 = some (26, .iconst 1, []) := rfl
theorem s_15_12 {d : Nat} {σ : xS} {st : List Value} {Q : xR → xS → Prop} {l0 : Option Value} : G d 15 12 [l0] st σ Q ↔ G d 15 13 [l0] (.int (1) :: st) σ Q := gs_go f_15_12 rfl
theorem f_15_13 : ft 15 13 = some (27, .ireturn, []) := rfl
theorem s_15_13 {d : Nat} {σ : xS} {ls : xL} {Q : xR → xS → Prop} {x : Int32} : G d 15 13 ls [.int x] σ Q ↔ Q (.inl (some (.int x))) σ := gs_reti f_15_13 rfl
theorem f_15_14 : ft 15 14 = some (28, .aload_n 0, []) := rfl
theorem s_15_14 {d : Nat} {σ : xS} {st : List Value} {Q : xR → xS → Prop} {x : Nat} : G d 15 14 [some (.ref x)] st σ Q ↔ G d 15 15 [some (.ref x)] (.ref x :: st) σ Q := gs_go f_15_14 rfl
theorem f_15_15 : ft 15 15 = some (29, .getfield 31, [2, 0, 0, 269]) := rfl
theorem s_15_15 {d : Nat} {t : yT} {st : List Value} {Q : xR → xS → Prop} {l0 : Option Value} {a : Nat} (ho : yisO 2 a) : G d 15 15 [l0] (.ref a :: st) (yemb t) Q ↔ G d 15 16 [l0] (.ref 1 :: st) (yemb t) Q := gs_getf (c := 2) (j := 0) (q := .c 1) f_15_15 ho rfl
theorem f_15_16 : ft 15 16 = some (32, .ldc 87, [1, 7, 926]) := rfl
theorem s_15_16 {d : Nat} {σ : xS} {st : List Value} {Q : xR → xS → Prop} {l0 : Option Value} : G d 15 16 [l0] st σ Q ↔ G d 15 17 [l0] (.ref 1000107 :: st) σ Q := gs_go f_15_16 rfl
theorem f_15_17 : ft 15 17 = some (34, .invokevirtual 81, [85, 2, 0, 924]) := rfl
theorem s_15_17 {d : Nat} {t : yT} {st : List Value} {Q : xR → xS → Prop} {l0 : Option Value} {a0 : Nat} {a1 : Nat} (ho : yisO 6 a0) : G (d + 1) 15 17 [l0] (.ref a1 :: .ref a0 :: st) (yemb t) Q ↔ xcat st ≤ 8 ∧ Cl d 85 [.ref a0, .ref a1] (yemb t) (Gk (d + 1) 15 17 [l0] st Q) := gs_call f_15_17 ((xinv_call (i := 17) (n := 924) (ls := [l0]) (kind := 0) (σ := yemb t) (by decide)).trans (xcall_vi [.ref a1, .ref a0] rfl rfl (show (2 : Nat) ≤ 3 by decide) rfl ho))
theorem f_15_18 : ft 15 18 = some (37, .ifCond .eq 5, [21]) := rfl
theorem s_15_18 {d : Nat} {σ : xS} {st : List Value} {Q : xR → xS → Prop} {l0 : Option Value} {x : Int32} : G d 15 18 [l0] (.int x :: st) σ Q ↔ if x = 0 then G d 15 21 [l0] st σ Q else G d 15 19 [l0] st σ Q := gs_if f_15_18 rfl
theorem f_15_19 : ft 15 19 = some (40, .iconst 2, []) := rfl
theorem s_15_19 {d : Nat} {σ : xS} {st : List Value} {Q : xR → xS → Prop} {l0 : Option Value} : G d 15 19 [l0] st σ Q ↔ G d 15 20 [l0] (.int (2) :: st) σ Q := gs_go f_15_19 rfl
theorem f_15_20 : ft 15 20 = some (41, .ireturn, []) := rfl
theorem s_15_20 {d : Nat} {σ : xS} {ls : xL} {Q : xR → xS → Prop} {x : Int32} : G d 15 20 ls [.int x] σ Q ↔ Q (.inl (some (.int x))) σ := gs_reti f_15_20 rfl
theorem f_15_21 : ft 15 21 = some (42, .aload_n 0, []) := rfl
theorem s_15_21 {d : Nat} {σ : xS} {st : List Value} {Q : xR → xS → Prop} {x : Nat} : G d 15 21 [some (.ref x)] st σ Q ↔ G d 15 22 [some (.ref x)] (.ref x :: st) σ Q := gs_go f_15_21 rfl
theorem f_15_22 : ft 15 22 = some (43, .getfield 31, [2, 0, 0, 269]) := rfl
theorem s_15_22 {d : Nat} {t : yT} {st : List Value} {Q : xR → xS → Prop} {l0 : Option Value} {a : Nat} (ho : yisO 2 a) : G d 15 22 [l0] (.ref a :: st) (yemb t) Q ↔ G d 15 23 [l0] (.ref 1 :: st) (yemb t) Q := gs_getf (c := 2) (j := 0) (q := .c 1) f_15_22 ho rfl
theorem f_15_23 : ft 15 23 = some (46, .ldc 89, [1, 10, 927]) := rfl
theorem s_15_23 {d : Nat} {σ : xS} {st : List Value} {Q : xR → xS → Prop} {l0 : Option Value} : G d 15 23 [l0] st σ Q ↔ G d 15 24 [l0] (.ref 1000110 :: st) σ Q := gs_go f_15_23 rfl
theorem f_15_24 : ft 15 24 = some (48, .invokevirtual 81, [85, 2, 0, 924]) := rfl
theorem s_15_24 {d : Nat} {t : yT} {st : List Value} {Q : xR → xS → Prop} {l0 : Option Value} {a0 : Nat} {a1 : Nat} (ho : yisO 6 a0) : G (d + 1) 15 24 [l0] (.ref a1 :: .ref a0 :: st) (yemb t) Q ↔ xcat st ≤ 8 ∧ Cl d 85 [.ref a0, .ref a1] (yemb t) (Gk (d + 1) 15 24 [l0] st Q) := gs_call f_15_24 ((xinv_call (i := 24) (n := 924) (ls := [l0]) (kind := 0) (σ := yemb t) (by decide)).trans (xcall_vi [.ref a1, .ref a0] rfl rfl (show (2 : Nat) ≤ 3 by decide) rfl ho))
theorem f_15_25 : ft 15 25 = some (51, .ifCond .eq 5, [28]) := rfl
theorem s_15_25 {d : Nat} {σ : xS} {st : List Value} {Q : xR → xS → Prop} {l0 : Option Value} {x : Int32} : G d 15 25 [l0] (.int x :: st) σ Q ↔ if x = 0 then G d 15 28 [l0] st σ Q else G d 15 26 [l0] st σ Q := gs_if f_15_25 rfl
theorem f_15_26 : ft 15 26 = some (54, .iconst 3, []) := rfl
theorem s_15_26 {d : Nat} {σ : xS} {st : List Value} {Q : xR → xS → Prop} {l0 : Option Value} : G d 15 26 [l0] st σ Q ↔ G d 15 27 [l0] (.int (3) :: st) σ Q := gs_go f_15_26 rfl
theorem f_15_27 : ft 15 27 = some (55, .ireturn, []) := rfl
theorem s_15_27 {d : Nat} {σ : xS} {ls : xL} {Q : xR → xS → Prop} {x : Int32} : G d 15 27 ls [.int x] σ Q ↔ Q (.inl (some (.int x))) σ := gs_reti f_15_27 rfl
theorem f_15_28 : ft 15 28 = some (56, .aload_n 0, []) := rfl
theorem s_15_28 {d : Nat} {σ : xS} {st : List Value} {Q : xR → xS → Prop} {x : Nat} : G d 15 28 [some (.ref x)] st σ Q ↔ G d 15 29 [some (.ref x)] (.ref x :: st) σ Q := gs_go f_15_28 rfl
theorem f_15_29 : ft 15 29 = some (57, .getfield 31, [2, 0, 0, 269]) := rfl
theorem s_15_29 {d : Nat} {t : yT} {st : List Value} {Q : xR → xS → Prop} {l0 : Option Value} {a : Nat} (ho : yisO 2 a) : G d 15 29 [l0] (.ref a :: st) (yemb t) Q ↔ G d 15 30 [l0] (.ref 1 :: st) (yemb t) Q := gs_getf (c := 2) (j := 0) (q := .c 1) f_15_29 ho rfl
theorem f_15_30 : ft 15 30 = some (60, .ldc 91, [1, 2, 928]) := rfl
theorem s_15_30 {d : Nat} {σ : xS} {st : List Value} {Q : xR → xS → Prop} {l0 : Option Value} : G d 15 30 [l0] st σ Q ↔ G d 15 31 [l0] (.ref 1000102 :: st) σ Q := gs_go f_15_30 rfl
theorem f_15_31 : ft 15 31 = some (62, .invokevirtual 81, [85, 2, 0, 924]) := rfl
theorem s_15_31 {d : Nat} {t : yT} {st : List Value} {Q : xR → xS → Prop} {l0 : Option Value} {a0 : Nat} {a1 : Nat} (ho : yisO 6 a0) : G (d + 1) 15 31 [l0] (.ref a1 :: .ref a0 :: st) (yemb t) Q ↔ xcat st ≤ 8 ∧ Cl d 85 [.ref a0, .ref a1] (yemb t) (Gk (d + 1) 15 31 [l0] st Q) := gs_call f_15_31 ((xinv_call (i := 31) (n := 924) (ls := [l0]) (kind := 0) (σ := yemb t) (by decide)).trans (xcall_vi [.ref a1, .ref a0] rfl rfl (show (2 : Nat) ≤ 3 by decide) rfl ho))
theorem f_15_32 : ft 15 32 = some (65, .ifCond .eq 5, [35]) := rfl
theorem s_15_32 {d : Nat} {σ : xS} {st : List Value} {Q : xR → xS → Prop} {l0 : Option Value} {x : Int32} : G d 15 32 [l0] (.int x :: st) σ Q ↔ if x = 0 then G d 15 35 [l0] st σ Q else G d 15 33 [l0] st σ Q := gs_if f_15_32 rfl
theorem f_15_33 : ft 15 33 = some (68, .iconst 4, []) := rfl
theorem s_15_33 {d : Nat} {σ : xS} {st : List Value} {Q : xR → xS → Prop} {l0 : Option Value} : G d 15 33 [l0] st σ Q ↔ G d 15 34 [l0] (.int (4) :: st) σ Q := gs_go f_15_33 rfl
theorem f_15_34 : ft 15 34 = some (69, .ireturn, []) := rfl
theorem s_15_34 {d : Nat} {σ : xS} {ls : xL} {Q : xR → xS → Prop} {x : Int32} : G d 15 34 ls [.int x] σ Q ↔ Q (.inl (some (.int x))) σ := gs_reti f_15_34 rfl
theorem f_15_35 : ft 15 35 = some (70, .aload_n 0, []) := rfl
theorem s_15_35 {d : Nat} {σ : xS} {st : List Value} {Q : xR → xS → Prop} {x : Nat} : G d 15 35 [some (.ref x)] st σ Q ↔ G d 15 36 [some (.ref x)] (.ref x :: st) σ Q := gs_go f_15_35 rfl
theorem f_15_36 : ft 15 36 = some (71, .getfield 31, [2, 0, 0, 269]) := rfl
theorem s_15_36 {d : Nat} {t : yT} {st : List Value} {Q : xR → xS → Prop} {l0 : Option Value} {a : Nat} (ho : yisO 2 a) : G d 15 36 [l0] (.ref a :: st) (yemb t) Q ↔ G d 15 37 [l0] (.ref 1 :: st) (yemb t) Q := gs_getf (c := 2) (j := 0) (q := .c 1) f_15_36 ho rfl
theorem f_15_37 : ft 15 37 = some (74, .ldc 93, [1, 8, 929]) := rfl
theorem s_15_37 {d : Nat} {σ : xS} {st : List Value} {Q : xR → xS → Prop} {l0 : Option Value} : G d 15 37 [l0] st σ Q ↔ G d 15 38 [l0] (.ref 1000108 :: st) σ Q := gs_go f_15_37 rfl
theorem f_15_38 : ft 15 38 = some (76, .invokevirtual 81, [85, 2, 0, 924]) := rfl
theorem s_15_38 {d : Nat} {t : yT} {st : List Value} {Q : xR → xS → Prop} {l0 : Option Value} {a0 : Nat} {a1 : Nat} (ho : yisO 6 a0) : G (d + 1) 15 38 [l0] (.ref a1 :: .ref a0 :: st) (yemb t) Q ↔ xcat st ≤ 8 ∧ Cl d 85 [.ref a0, .ref a1] (yemb t) (Gk (d + 1) 15 38 [l0] st Q) := gs_call f_15_38 ((xinv_call (i := 38) (n := 924) (ls := [l0]) (kind := 0) (σ := yemb t) (by decide)).trans (xcall_vi [.ref a1, .ref a0] rfl rfl (show (2 : Nat) ≤ 3 by decide) rfl ho))
theorem f_15_39 : ft 15 39 = some (79, .ifCond .eq 7, [42]) := rfl
theorem s_15_39 {d : Nat} {σ : xS} {st : List Value} {Q : xR → xS → Prop} {l0 : Option Value} {x : Int32} : G d 15 39 [l0] (.int x :: st) σ Q ↔ if x = 0 then G d 15 42 [l0] st σ Q else G d 15 40 [l0] st σ Q := gs_if f_15_39 rfl
theorem f_15_40 : ft 15 40 = some (82, .iconst 5, []) := rfl
theorem s_15_40 {d : Nat} {σ : xS} {st : List Value} {Q : xR → xS → Prop} {l0 : Option Value} : G d 15 40 [l0] st σ Q ↔ G d 15 41 [l0] (.int (5) :: st) σ Q := gs_go f_15_40 rfl
theorem f_15_41 : ft 15 41 = some (83, .goto 4, [43]) := rfl
theorem s_15_41 {d : Nat} {σ : xS} {st : List Value} {Q : xR → xS → Prop} {l0 : Option Value} : G d 15 41 [l0] st σ Q ↔ G d 15 43 [l0] st σ Q := gs_go f_15_41 rfl
theorem f_15_42 : ft 15 42 = some (86, .iconst (-1), []) := rfl
theorem s_15_42 {d : Nat} {σ : xS} {st : List Value} {Q : xR → xS → Prop} {l0 : Option Value} : G d 15 42 [l0] st σ Q ↔ G d 15 43 [l0] (.int (-1) :: st) σ Q := gs_go f_15_42 rfl
theorem f_15_43 : ft 15 43 = some (87, .ireturn, []) := rfl
theorem s_15_43 {d : Nat} {σ : xS} {ls : xL} {Q : xR → xS → Prop} {x : Int32} : G d 15 43 ls [.int x] σ Q ↔ Q (.inl (some (.int x))) σ := gs_reti f_15_43 rfl
theorem f_16_0 : ft 16 0 = some (0, .aload_n 0, []) := rfl
theorem s_16_0 {d : Nat} {σ : xS} {st : List Value} {Q : xR → xS → Prop} {l1 l2 l3 l4 : Option Value} {x : Nat} : G d 16 0 [some (.ref x), l1, l2, l3, l4] st σ Q ↔ G d 16 1 [some (.ref x), l1, l2, l3, l4] (.ref x :: st) σ Q := gs_go f_16_0 rfl
theorem f_16_1 : ft 16 1 = some (1, .getfield 11, [2, 3, 0, 272]) := rfl
theorem s_16_1 {d : Nat} {t : yT} {st : List Value} {Q : xR → xS → Prop} {l0 l1 l2 l3 l4 : Option Value} {a : Nat} (ho : yisO 2 a) : G d 16 1 [l0, l1, l2, l3, l4] (.ref a :: st) (yemb t) Q ↔ G d 16 2 [l0, l1, l2, l3, l4] (.ref 35 :: st) (yemb t) Q := gs_getf (c := 2) (j := 3) (q := .c 35) f_16_1 ho rfl
theorem f_16_2 : ft 16 2 = some (4, .iload_n 1, []) := rfl
theorem s_16_2 {d : Nat} {σ : xS} {st : List Value} {Q : xR → xS → Prop} {l0 l2 l3 l4 : Option Value} {x : Int32} : G d 16 2 [l0, some (.int x), l2, l3, l4] st σ Q ↔ G d 16 3 [l0, some (.int x), l2, l3, l4] (.int x :: st) σ Q := gs_go f_16_2 rfl
theorem f_16_3 : ft 16 3 = some (5, .iaload, []) := rfl
theorem s_16_3 {d : Nat} {t : yT} {st : List Value} {Q : xR → xS → Prop} {l0 l1 l2 l3 l4 : Option Value} {a : Nat} {x : Int32} (ha : yA 0 a) : G d 16 3 [l0, l1, l2, l3, l4] (.int x :: .ref a :: st) (yemb t) Q ↔ yix x (yn a) ∧ G d 16 4 [l0, l1, l2, l3, l4] (.int (t.A a x.toNatClampNeg) :: st) (yemb t) Q := gs_iald f_16_3 ha
theorem f_16_4 : ft 16 4 = some (6, .iconst 5, []) := rfl
theorem s_16_4 {d : Nat} {σ : xS} {st : List Value} {Q : xR → xS → Prop} {l0 l1 l2 l3 l4 : Option Value} : G d 16 4 [l0, l1, l2, l3, l4] st σ Q ↔ G d 16 5 [l0, l1, l2, l3, l4] (.int (5) :: st) σ Q := gs_go f_16_4 rfl
theorem f_16_5 : ft 16 5 = some (7, .if_icmp .ne 7, [8]) := rfl
theorem s_16_5 {d : Nat} {σ : xS} {st : List Value} {Q : xR → xS → Prop} {l0 l1 l2 l3 l4 : Option Value} {x y : Int32} : G d 16 5 [l0, l1, l2, l3, l4] (.int y :: .int x :: st) σ Q ↔ if x ≠ y then G d 16 8 [l0, l1, l2, l3, l4] st σ Q else G d 16 6 [l0, l1, l2, l3, l4] st σ Q := gs_if f_16_5 rfl
theorem f_16_6 : ft 16 6 = some (10, .iconst 1, []) := rfl
theorem s_16_6 {d : Nat} {σ : xS} {st : List Value} {Q : xR → xS → Prop} {l0 l1 l2 l3 l4 : Option Value} : G d 16 6 [l0, l1, l2, l3, l4] st σ Q ↔ G d 16 7 [l0, l1, l2, l3, l4] (.int (1) :: st) σ Q := gs_go f_16_6 rfl
theorem f_16_7 : ft 16 7 = some (11, .goto 4, [9]) := rfl
theorem s_16_7 {d : Nat} {σ : xS} {st : List Value} {Q : xR → xS → Prop} {l0 l1 l2 l3 l4 : Option Value} : G d 16 7 [l0, l1, l2, l3, l4] st σ Q ↔ G d 16 9 [l0, l1, l2, l3, l4] st σ Q := gs_go f_16_7 rfl
theorem f_16_8 : ft 16 8 = some (14, .iconst 0, []) := rfl
theorem s_16_8 {d : Nat} {σ : xS} {st : List Value} {Q : xR → xS → Prop} {l0 l1 l2 l3 l4 : Option Value} : G d 16 8 [l0, l1, l2, l3, l4] st σ Q ↔ G d 16 9 [l0, l1, l2, l3, l4] (.int (0) :: st) σ Q := gs_go f_16_8 rfl
theorem f_16_9 : ft 16 9 = some (15, .istore_n 2, []) := rfl
theorem s_16_9 {d : Nat} {σ : xS} {st : List Value} {Q : xR → xS → Prop} {l0 l1 l2 l3 l4 : Option Value} {x : Int32} : G d 16 9 [l0, l1, l2, l3, l4] (.int x :: st) σ Q ↔ G d 16 10 [l0, ykl l1, some (.int x), l3, l4] st σ Q := by
  cases l1 with
  | none => exact gs_go f_16_9 rfl
  | some v => cases v <;> exact gs_go f_16_9 rfl
theorem f_16_10 : ft 16 10 = some (16, .iconst 0, []) := rfl
theorem s_16_10 {d : Nat} {σ : xS} {st : List Value} {Q : xR → xS → Prop} {l0 l1 l2 l3 l4 : Option Value} : G d 16 10 [l0, l1, l2, l3, l4] st σ Q ↔ G d 16 11 [l0, l1, l2, l3, l4] (.int (0) :: st) σ Q := gs_go f_16_10 rfl
theorem f_16_11 : ft 16 11 = some (17, .istore_n 3, []) := rfl
theorem s_16_11 {d : Nat} {σ : xS} {st : List Value} {Q : xR → xS → Prop} {l0 l1 l2 l3 l4 : Option Value} {x : Int32} : G d 16 11 [l0, l1, l2, l3, l4] (.int x :: st) σ Q ↔ G d 16 12 [l0, l1, ykl l2, some (.int x), l4] st σ Q := by
  cases l2 with
  | none => exact gs_go f_16_11 rfl
  | some v => cases v <;> exact gs_go f_16_11 rfl
theorem f_16_12 : ft 16 12 = some (18, .iload_n 3, []) := rfl
theorem s_16_12 {d : Nat} {σ : xS} {st : List Value} {Q : xR → xS → Prop} {l0 l1 l2 l4 : Option Value} {x : Int32} : G d 16 12 [l0, l1, l2, some (.int x), l4] st σ Q ↔ G d 16 13 [l0, l1, l2, some (.int x), l4] (.int x :: st) σ Q := gs_go f_16_12 rfl
theorem f_16_13 : ft 16 13 = some (19, .getstatic 95, [0, 0, 936]) := rfl
theorem s_16_13 {d : Nat} {σ : xS} {st : List Value} {Q : xR → xS → Prop} {l0 l1 l2 l3 l4 : Option Value} : G d 16 13 [l0, l1, l2, l3, l4] st σ Q ↔ G d 16 14 [l0, l1, l2, l3, l4] (.ref 1000001 :: st) σ Q := gs_go f_16_13 rfl
theorem f_16_14 : ft 16 14 = some (22, .aload_n 0, []) := rfl
theorem s_16_14 {d : Nat} {σ : xS} {st : List Value} {Q : xR → xS → Prop} {l1 l2 l3 l4 : Option Value} {x : Nat} : G d 16 14 [some (.ref x), l1, l2, l3, l4] st σ Q ↔ G d 16 15 [some (.ref x), l1, l2, l3, l4] (.ref x :: st) σ Q := gs_go f_16_14 rfl
theorem f_16_15 : ft 16 15 = some (23, .getfield 11, [2, 3, 0, 272]) := rfl
theorem s_16_15 {d : Nat} {t : yT} {st : List Value} {Q : xR → xS → Prop} {l0 l1 l2 l3 l4 : Option Value} {a : Nat} (ho : yisO 2 a) : G d 16 15 [l0, l1, l2, l3, l4] (.ref a :: st) (yemb t) Q ↔ G d 16 16 [l0, l1, l2, l3, l4] (.ref 35 :: st) (yemb t) Q := gs_getf (c := 2) (j := 3) (q := .c 35) f_16_15 ho rfl
theorem f_16_16 : ft 16 16 = some (26, .iload_n 1, []) := rfl
theorem s_16_16 {d : Nat} {σ : xS} {st : List Value} {Q : xR → xS → Prop} {l0 l2 l3 l4 : Option Value} {x : Int32} : G d 16 16 [l0, some (.int x), l2, l3, l4] st σ Q ↔ G d 16 17 [l0, some (.int x), l2, l3, l4] (.int x :: st) σ Q := gs_go f_16_16 rfl
theorem f_16_17 : ft 16 17 = some (27, .iaload, []) := rfl
theorem s_16_17 {d : Nat} {t : yT} {st : List Value} {Q : xR → xS → Prop} {l0 l1 l2 l3 l4 : Option Value} {a : Nat} {x : Int32} (ha : yA 0 a) : G d 16 17 [l0, l1, l2, l3, l4] (.int x :: .ref a :: st) (yemb t) Q ↔ yix x (yn a) ∧ G d 16 18 [l0, l1, l2, l3, l4] (.int (t.A a x.toNatClampNeg) :: st) (yemb t) Q := gs_iald f_16_17 ha
theorem f_16_18 : ft 16 18 = some (28, .iaload, []) := rfl
theorem s_16_18 {d : Nat} {t : yT} {st : List Value} {Q : xR → xS → Prop} {l0 l1 l2 l3 l4 : Option Value} {a : Nat} {x : Int32} (ha : yA 0 a) : G d 16 18 [l0, l1, l2, l3, l4] (.int x :: .ref a :: st) (yemb t) Q ↔ yix x (yn a) ∧ G d 16 19 [l0, l1, l2, l3, l4] (.int (t.A a x.toNatClampNeg) :: st) (yemb t) Q := gs_iald f_16_18 ha
theorem f_16_19 : ft 16 19 = some (29, .if_icmp .ge 58, [49]) := rfl
theorem s_16_19 {d : Nat} {σ : xS} {st : List Value} {Q : xR → xS → Prop} {l0 l1 l2 l3 l4 : Option Value} {x y : Int32} : G d 16 19 [l0, l1, l2, l3, l4] (.int y :: .int x :: st) σ Q ↔ if y ≤ x then G d 16 49 [l0, l1, l2, l3, l4] st σ Q else G d 16 20 [l0, l1, l2, l3, l4] st σ Q := gs_if f_16_19 rfl
theorem f_16_20 : ft 16 20 = some (32, .aload_n 0, []) := rfl
theorem s_16_20 {d : Nat} {σ : xS} {st : List Value} {Q : xR → xS → Prop} {l1 l2 l3 l4 : Option Value} {x : Nat} : G d 16 20 [some (.ref x), l1, l2, l3, l4] st σ Q ↔ G d 16 21 [some (.ref x), l1, l2, l3, l4] (.ref x :: st) σ Q := gs_go f_16_20 rfl
theorem f_16_21 : ft 16 21 = some (33, .getfield 31, [2, 0, 0, 269]) := rfl
theorem s_16_21 {d : Nat} {t : yT} {st : List Value} {Q : xR → xS → Prop} {l0 l1 l2 l3 l4 : Option Value} {a : Nat} (ho : yisO 2 a) : G d 16 21 [l0, l1, l2, l3, l4] (.ref a :: st) (yemb t) Q ↔ G d 16 22 [l0, l1, l2, l3, l4] (.ref 1 :: st) (yemb t) Q := gs_getf (c := 2) (j := 0) (q := .c 1) f_16_21 ho rfl
theorem f_16_22 : ft 16 22 = some (36, .iload_n 2, []) := rfl
theorem s_16_22 {d : Nat} {σ : xS} {st : List Value} {Q : xR → xS → Prop} {l0 l1 l3 l4 : Option Value} {x : Int32} : G d 16 22 [l0, l1, some (.int x), l3, l4] st σ Q ↔ G d 16 23 [l0, l1, some (.int x), l3, l4] (.int x :: st) σ Q := gs_go f_16_22 rfl
theorem f_16_23 : ft 16 23 = some (37, .ifCond .eq 7, [26]) := rfl
theorem s_16_23 {d : Nat} {σ : xS} {st : List Value} {Q : xR → xS → Prop} {l0 l1 l2 l3 l4 : Option Value} {x : Int32} : G d 16 23 [l0, l1, l2, l3, l4] (.int x :: st) σ Q ↔ if x = 0 then G d 16 26 [l0, l1, l2, l3, l4] st σ Q else G d 16 24 [l0, l1, l2, l3, l4] st σ Q := gs_if f_16_23 rfl
theorem f_16_24 : ft 16 24 = some (40, .iconst 1, []) := rfl
theorem s_16_24 {d : Nat} {σ : xS} {st : List Value} {Q : xR → xS → Prop} {l0 l1 l2 l3 l4 : Option Value} : G d 16 24 [l0, l1, l2, l3, l4] st σ Q ↔ G d 16 25 [l0, l1, l2, l3, l4] (.int (1) :: st) σ Q := gs_go f_16_24 rfl
theorem f_16_25 : ft 16 25 = some (41, .goto 4, [27]) := rfl
theorem s_16_25 {d : Nat} {σ : xS} {st : List Value} {Q : xR → xS → Prop} {l0 l1 l2 l3 l4 : Option Value} : G d 16 25 [l0, l1, l2, l3, l4] st σ Q ↔ G d 16 27 [l0, l1, l2, l3, l4] st σ Q := gs_go f_16_25 rfl
theorem f_16_26 : ft 16 26 = some (44, .iconst 0, []) := rfl
theorem s_16_26 {d : Nat} {σ : xS} {st : List Value} {Q : xR → xS → Prop} {l0 l1 l2 l3 l4 : Option Value} : G d 16 26 [l0, l1, l2, l3, l4] st σ Q ↔ G d 16 27 [l0, l1, l2, l3, l4] (.int (0) :: st) σ Q := gs_go f_16_26 rfl
theorem f_16_27 : ft 16 27 = some (45, .iload_n 2, []) := rfl
theorem s_16_27 {d : Nat} {σ : xS} {st : List Value} {Q : xR → xS → Prop} {l0 l1 l3 l4 : Option Value} {x : Int32} : G d 16 27 [l0, l1, some (.int x), l3, l4] st σ Q ↔ G d 16 28 [l0, l1, some (.int x), l3, l4] (.int x :: st) σ Q := gs_go f_16_27 rfl
theorem f_16_28 : ft 16 28 = some (46, .ifCond .eq 8, [31]) := rfl
theorem s_16_28 {d : Nat} {σ : xS} {st : List Value} {Q : xR → xS → Prop} {l0 l1 l2 l3 l4 : Option Value} {x : Int32} : G d 16 28 [l0, l1, l2, l3, l4] (.int x :: st) σ Q ↔ if x = 0 then G d 16 31 [l0, l1, l2, l3, l4] st σ Q else G d 16 29 [l0, l1, l2, l3, l4] st σ Q := gs_if f_16_28 rfl
theorem f_16_29 : ft 16 29 = some (49, .bipush 20, []) := rfl
theorem s_16_29 {d : Nat} {σ : xS} {st : List Value} {Q : xR → xS → Prop} {l0 l1 l2 l3 l4 : Option Value} : G d 16 29 [l0, l1, l2, l3, l4] st σ Q ↔ G d 16 30 [l0, l1, l2, l3, l4] (.int (20) :: st) σ Q := gs_go f_16_29 rfl
theorem f_16_30 : ft 16 30 = some (51, .goto 6, [32]) := rfl
theorem s_16_30 {d : Nat} {σ : xS} {st : List Value} {Q : xR → xS → Prop} {l0 l1 l2 l3 l4 : Option Value} : G d 16 30 [l0, l1, l2, l3, l4] st σ Q ↔ G d 16 32 [l0, l1, l2, l3, l4] st σ Q := gs_go f_16_30 rfl
theorem f_16_31 : ft 16 31 = some (54, .sipush 9999, []) := rfl
theorem s_16_31 {d : Nat} {σ : xS} {st : List Value} {Q : xR → xS → Prop} {l0 l1 l2 l3 l4 : Option Value} : G d 16 31 [l0, l1, l2, l3, l4] st σ Q ↔ G d 16 32 [l0, l1, l2, l3, l4] (.int (9999) :: st) σ Q := gs_go f_16_31 rfl
theorem f_16_32 : ft 16 32 = some (57, .invokevirtual 98, [89, 3, 0, 938]) := rfl
theorem s_16_32 {d : Nat} {t : yT} {st : List Value} {Q : xR → xS → Prop} {l0 l1 l2 l3 l4 : Option Value} {a0 : Nat} {a1 : Int32} {a2 : Int32} (ho : yisO 6 a0) : G (d + 1) 16 32 [l0, l1, l2, l3, l4] (.int a2 :: .int a1 :: .ref a0 :: st) (yemb t) Q ↔ xcat st ≤ 8 ∧ Cl d 89 [.ref a0, .int a1, .int a2] (yemb t) (Gk (d + 1) 16 32 [l0, l1, l2, l3, l4] st Q) := gs_call f_16_32 ((xinv_call (i := 32) (n := 938) (ls := [l0, l1, l2, l3, l4]) (kind := 0) (σ := yemb t) (by decide)).trans (xcall_vi [.int a2, .int a1, .ref a0] rfl rfl (show (3 : Nat) ≤ 4 by decide) rfl ho))
theorem f_16_33 : ft 16 33 = some (60, .istore 4, []) := rfl
theorem s_16_33 {d : Nat} {σ : xS} {st : List Value} {Q : xR → xS → Prop} {l0 l1 l2 l3 l4 : Option Value} {x : Int32} : G d 16 33 [l0, l1, l2, l3, l4] (.int x :: st) σ Q ↔ G d 16 34 [l0, l1, l2, ykl l3, some (.int x)] st σ Q := by
  cases l3 with
  | none => exact gs_go f_16_33 rfl
  | some v => cases v <;> exact gs_go f_16_33 rfl
theorem f_16_34 : ft 16 34 = some (62, .iload 4, []) := rfl
theorem s_16_34 {d : Nat} {σ : xS} {st : List Value} {Q : xR → xS → Prop} {l0 l1 l2 l3 : Option Value} {x : Int32} : G d 16 34 [l0, l1, l2, l3, some (.int x)] st σ Q ↔ G d 16 35 [l0, l1, l2, l3, some (.int x)] (.int x :: st) σ Q := gs_go f_16_34 rfl
theorem f_16_35 : ft 16 35 = some (64, .ifCond .ge 5, [38]) := rfl
theorem s_16_35 {d : Nat} {σ : xS} {st : List Value} {Q : xR → xS → Prop} {l0 l1 l2 l3 l4 : Option Value} {x : Int32} : G d 16 35 [l0, l1, l2, l3, l4] (.int x :: st) σ Q ↔ if 0 ≤ x then G d 16 38 [l0, l1, l2, l3, l4] st σ Q else G d 16 36 [l0, l1, l2, l3, l4] st σ Q := gs_if f_16_35 rfl
theorem f_16_36 : ft 16 36 = some (67, .iconst 0, []) := rfl
theorem s_16_36 {d : Nat} {σ : xS} {st : List Value} {Q : xR → xS → Prop} {l0 l1 l2 l3 l4 : Option Value} : G d 16 36 [l0, l1, l2, l3, l4] st σ Q ↔ G d 16 37 [l0, l1, l2, l3, l4] (.int (0) :: st) σ Q := gs_go f_16_36 rfl
theorem f_16_37 : ft 16 37 = some (68, .ireturn, []) := rfl
theorem s_16_37 {d : Nat} {σ : xS} {ls : xL} {Q : xR → xS → Prop} {x : Int32} : G d 16 37 ls [.int x] σ Q ↔ ybo x ∧ Q (.inl (some (.int x))) σ := gs_retb f_16_37 rfl
theorem f_16_38 : ft 16 38 = some (69, .aload_n 0, []) := rfl
theorem s_16_38 {d : Nat} {σ : xS} {st : List Value} {Q : xR → xS → Prop} {l1 l2 l3 l4 : Option Value} {x : Nat} : G d 16 38 [some (.ref x), l1, l2, l3, l4] st σ Q ↔ G d 16 39 [some (.ref x), l1, l2, l3, l4] (.ref x :: st) σ Q := gs_go f_16_38 rfl
theorem f_16_39 : ft 16 39 = some (70, .getfield 15, [2, 4, 0, 273]) := rfl
theorem s_16_39 {d : Nat} {t : yT} {st : List Value} {Q : xR → xS → Prop} {l0 l1 l2 l3 l4 : Option Value} {a : Nat} (ho : yisO 2 a) : G d 16 39 [l0, l1, l2, l3, l4] (.ref a :: st) (yemb t) Q ↔ G d 16 40 [l0, l1, l2, l3, l4] (.ref 36 :: st) (yemb t) Q := gs_getf (c := 2) (j := 4) (q := .c 36) f_16_39 ho rfl
theorem f_16_40 : ft 16 40 = some (73, .iconst 5, []) := rfl
theorem s_16_40 {d : Nat} {σ : xS} {st : List Value} {Q : xR → xS → Prop} {l0 l1 l2 l3 l4 : Option Value} : G d 16 40 [l0, l1, l2, l3, l4] st σ Q ↔ G d 16 41 [l0, l1, l2, l3, l4] (.int (5) :: st) σ Q := gs_go f_16_40 rfl
theorem f_16_41 : ft 16 41 = some (74, .iload_n 1, []) := rfl
theorem s_16_41 {d : Nat} {σ : xS} {st : List Value} {Q : xR → xS → Prop} {l0 l2 l3 l4 : Option Value} {x : Int32} : G d 16 41 [l0, some (.int x), l2, l3, l4] st σ Q ↔ G d 16 42 [l0, some (.int x), l2, l3, l4] (.int x :: st) σ Q := gs_go f_16_41 rfl
theorem f_16_42 : ft 16 42 = some (75, .imul, []) := rfl
theorem s_16_42 {d : Nat} {σ : xS} {st : List Value} {Q : xR → xS → Prop} {l0 l1 l2 l3 l4 : Option Value} {x y : Int32} : G d 16 42 [l0, l1, l2, l3, l4] (.int y :: .int x :: st) σ Q ↔ G d 16 43 [l0, l1, l2, l3, l4] (.int (x * y) :: st) σ Q := gs_go f_16_42 rfl
theorem f_16_43 : ft 16 43 = some (76, .iload_n 3, []) := rfl
theorem s_16_43 {d : Nat} {σ : xS} {st : List Value} {Q : xR → xS → Prop} {l0 l1 l2 l4 : Option Value} {x : Int32} : G d 16 43 [l0, l1, l2, some (.int x), l4] st σ Q ↔ G d 16 44 [l0, l1, l2, some (.int x), l4] (.int x :: st) σ Q := gs_go f_16_43 rfl
theorem f_16_44 : ft 16 44 = some (77, .iadd, []) := rfl
theorem s_16_44 {d : Nat} {σ : xS} {st : List Value} {Q : xR → xS → Prop} {l0 l1 l2 l3 l4 : Option Value} {x y : Int32} : G d 16 44 [l0, l1, l2, l3, l4] (.int y :: .int x :: st) σ Q ↔ G d 16 45 [l0, l1, l2, l3, l4] (.int (x + y) :: st) σ Q := gs_go f_16_44 rfl
theorem f_16_45 : ft 16 45 = some (78, .iload 4, []) := rfl
theorem s_16_45 {d : Nat} {σ : xS} {st : List Value} {Q : xR → xS → Prop} {l0 l1 l2 l3 : Option Value} {x : Int32} : G d 16 45 [l0, l1, l2, l3, some (.int x)] st σ Q ↔ G d 16 46 [l0, l1, l2, l3, some (.int x)] (.int x :: st) σ Q := gs_go f_16_45 rfl
theorem f_16_46 : ft 16 46 = some (80, .iastore, []) := rfl
theorem s_16_46 {d : Nat} {t : yT} {st : List Value} {Q : xR → xS → Prop} {l0 l1 l2 l3 l4 : Option Value} {a : Nat} {x v : Int32} (ha : yA 0 a) : G d 16 46 [l0, l1, l2, l3, l4] (.int v :: .int x :: .ref a :: st) (yemb t) Q ↔ yix x (yn a) ∧ G d 16 47 [l0, l1, l2, l3, l4] st (yemb (t.s1 a x.toNatClampNeg v)) Q := gs_iast f_16_46 ha
theorem f_16_47 : ft 16 47 = some (81, .iinc 3 1, []) := rfl
theorem s_16_47 {d : Nat} {σ : xS} {st : List Value} {Q : xR → xS → Prop} {l0 l1 l2 l4 : Option Value} {x : Int32} : G d 16 47 [l0, l1, l2, some (.int x), l4] st σ Q ↔ G d 16 48 [l0, l1, ykl l2, some (.int (x + 1)), l4] st σ Q := by
  cases l2 with
  | none => exact gs_go f_16_47 rfl
  | some v => cases v <;> exact gs_go f_16_47 rfl
theorem f_16_48 : ft 16 48 = some (84, .goto (-66), [12]) := rfl
theorem s_16_48 {d : Nat} {σ : xS} {st : List Value} {Q : xR → xS → Prop} {l0 l1 l2 l3 l4 : Option Value} : G d 16 48 [l0, l1, l2, l3, l4] st σ Q ↔ G d 16 12 [l0, l1, l2, l3, l4] st σ Q := gs_go f_16_48 rfl
theorem f_16_49 : ft 16 49 = some (87, .iconst 1, []) := rfl
theorem s_16_49 {d : Nat} {σ : xS} {st : List Value} {Q : xR → xS → Prop} {l0 l1 l2 l3 l4 : Option Value} : G d 16 49 [l0, l1, l2, l3, l4] st σ Q ↔ G d 16 50 [l0, l1, l2, l3, l4] (.int (1) :: st) σ Q := gs_go f_16_49 rfl
theorem f_16_50 : ft 16 50 = some (88, .ireturn, []) := rfl
theorem s_16_50 {d : Nat} {σ : xS} {ls : xL} {Q : xR → xS → Prop} {x : Int32} : G d 16 50 ls [.int x] σ Q ↔ ybo x ∧ Q (.inl (some (.int x))) σ := gs_retb f_16_50 rfl
theorem f_17_0 : ft 17 0 = some (0, .iload_n 3, []) := rfl
theorem s_17_0 {d : Nat} {σ : xS} {st : List Value} {Q : xR → xS → Prop} {l0 l1 l2 l4 l5 : Option Value} {x : Int32} : G d 17 0 [l0, l1, l2, some (.int x), l4, l5] st σ Q ↔ G d 17 1 [l0, l1, l2, some (.int x), l4, l5] (.int x :: st) σ Q := gs_go f_17_0 rfl
theorem f_17_1 : ft 17 1 = some (1, .iconst 3, []) := rfl
theorem s_17_1 {d : Nat} {σ : xS} {st : List Value} {Q : xR → xS → Prop} {l0 l1 l2 l3 l4 l5 : Option Value} : G d 17 1 [l0, l1, l2, l3, l4, l5] st σ Q ↔ G d 17 2 [l0, l1, l2, l3, l4, l5] (.int (3) :: st) σ Q := gs_go f_17_1 rfl
theorem f_17_2 : ft 17 2 = some (2, .if_icmp .le 5, [5]) := rfl
theorem s_17_2 {d : Nat} {σ : xS} {st : List Value} {Q : xR → xS → Prop} {l0 l1 l2 l3 l4 l5 : Option Value} {x y : Int32} : G d 17 2 [l0, l1, l2, l3, l4, l5] (.int y :: .int x :: st) σ Q ↔ if x ≤ y then G d 17 5 [l0, l1, l2, l3, l4, l5] st σ Q else G d 17 3 [l0, l1, l2, l3, l4, l5] st σ Q := gs_if f_17_2 rfl
theorem f_17_3 : ft 17 3 = some (5, .iconst 0, []) := rfl
theorem s_17_3 {d : Nat} {σ : xS} {st : List Value} {Q : xR → xS → Prop} {l0 l1 l2 l3 l4 l5 : Option Value} : G d 17 3 [l0, l1, l2, l3, l4, l5] st σ Q ↔ G d 17 4 [l0, l1, l2, l3, l4, l5] (.int (0) :: st) σ Q := gs_go f_17_3 rfl
theorem f_17_4 : ft 17 4 = some (6, .ireturn, []) := rfl
theorem s_17_4 {d : Nat} {σ : xS} {ls : xL} {Q : xR → xS → Prop} {x : Int32} : G d 17 4 ls [.int x] σ Q ↔ ybo x ∧ Q (.inl (some (.int x))) σ := gs_retb f_17_4 rfl
theorem f_17_5 : ft 17 5 = some (7, .iload_n 1, []) := rfl
theorem s_17_5 {d : Nat} {σ : xS} {st : List Value} {Q : xR → xS → Prop} {l0 l2 l3 l4 l5 : Option Value} {x : Int32} : G d 17 5 [l0, some (.int x), l2, l3, l4, l5] st σ Q ↔ G d 17 6 [l0, some (.int x), l2, l3, l4, l5] (.int x :: st) σ Q := gs_go f_17_5 rfl
theorem f_17_6 : ft 17 6 = some (8, .istore 4, []) := rfl
theorem s_17_6 {d : Nat} {σ : xS} {st : List Value} {Q : xR → xS → Prop} {l0 l1 l2 l3 l4 l5 : Option Value} {x : Int32} : G d 17 6 [l0, l1, l2, l3, l4, l5] (.int x :: st) σ Q ↔ G d 17 7 [l0, l1, l2, ykl l3, some (.int x), l5] st σ Q := by
  cases l3 with
  | none => exact gs_go f_17_6 rfl
  | some v => cases v <;> exact gs_go f_17_6 rfl
theorem f_17_7 : ft 17 7 = some (10, .iload 4, []) := rfl
theorem s_17_7 {d : Nat} {σ : xS} {st : List Value} {Q : xR → xS → Prop} {l0 l1 l2 l3 l5 : Option Value} {x : Int32} : G d 17 7 [l0, l1, l2, l3, some (.int x), l5] st σ Q ↔ G d 17 8 [l0, l1, l2, l3, some (.int x), l5] (.int x :: st) σ Q := gs_go f_17_7 rfl
theorem f_17_8 : ft 17 8 = some (12, .iload_n 2, []) := rfl
theorem s_17_8 {d : Nat} {σ : xS} {st : List Value} {Q : xR → xS → Prop} {l0 l1 l3 l4 l5 : Option Value} {x : Int32} : G d 17 8 [l0, l1, some (.int x), l3, l4, l5] st σ Q ↔ G d 17 9 [l0, l1, some (.int x), l3, l4, l5] (.int x :: st) σ Q := gs_go f_17_8 rfl
theorem f_17_9 : ft 17 9 = some (13, .if_icmp .ge 104, [67]) := rfl
theorem s_17_9 {d : Nat} {σ : xS} {st : List Value} {Q : xR → xS → Prop} {l0 l1 l2 l3 l4 l5 : Option Value} {x y : Int32} : G d 17 9 [l0, l1, l2, l3, l4, l5] (.int y :: .int x :: st) σ Q ↔ if y ≤ x then G d 17 67 [l0, l1, l2, l3, l4, l5] st σ Q else G d 17 10 [l0, l1, l2, l3, l4, l5] st σ Q := gs_if f_17_9 rfl
theorem f_17_10 : ft 17 10 = some (16, .aload_n 0, []) := rfl
theorem s_17_10 {d : Nat} {σ : xS} {st : List Value} {Q : xR → xS → Prop} {l1 l2 l3 l4 l5 : Option Value} {x : Nat} : G d 17 10 [some (.ref x), l1, l2, l3, l4, l5] st σ Q ↔ G d 17 11 [some (.ref x), l1, l2, l3, l4, l5] (.ref x :: st) σ Q := gs_go f_17_10 rfl
theorem f_17_11 : ft 17 11 = some (17, .getfield 11, [2, 3, 0, 272]) := rfl
theorem s_17_11 {d : Nat} {t : yT} {st : List Value} {Q : xR → xS → Prop} {l0 l1 l2 l3 l4 l5 : Option Value} {a : Nat} (ho : yisO 2 a) : G d 17 11 [l0, l1, l2, l3, l4, l5] (.ref a :: st) (yemb t) Q ↔ G d 17 12 [l0, l1, l2, l3, l4, l5] (.ref 35 :: st) (yemb t) Q := gs_getf (c := 2) (j := 3) (q := .c 35) f_17_11 ho rfl
theorem f_17_12 : ft 17 12 = some (20, .iload 4, []) := rfl
theorem s_17_12 {d : Nat} {σ : xS} {st : List Value} {Q : xR → xS → Prop} {l0 l1 l2 l3 l5 : Option Value} {x : Int32} : G d 17 12 [l0, l1, l2, l3, some (.int x), l5] st σ Q ↔ G d 17 13 [l0, l1, l2, l3, some (.int x), l5] (.int x :: st) σ Q := gs_go f_17_12 rfl
theorem f_17_13 : ft 17 13 = some (22, .iaload, []) := rfl
theorem s_17_13 {d : Nat} {t : yT} {st : List Value} {Q : xR → xS → Prop} {l0 l1 l2 l3 l4 l5 : Option Value} {a : Nat} {x : Int32} (ha : yA 0 a) : G d 17 13 [l0, l1, l2, l3, l4, l5] (.int x :: .ref a :: st) (yemb t) Q ↔ yix x (yn a) ∧ G d 17 14 [l0, l1, l2, l3, l4, l5] (.int (t.A a x.toNatClampNeg) :: st) (yemb t) Q := gs_iald f_17_13 ha
theorem f_17_14 : ft 17 14 = some (23, .iconst 5, []) := rfl
theorem s_17_14 {d : Nat} {σ : xS} {st : List Value} {Q : xR → xS → Prop} {l0 l1 l2 l3 l4 l5 : Option Value} : G d 17 14 [l0, l1, l2, l3, l4, l5] st σ Q ↔ G d 17 15 [l0, l1, l2, l3, l4, l5] (.int (5) :: st) σ Q := gs_go f_17_14 rfl
theorem f_17_15 : ft 17 15 = some (24, .if_icmp .eq 14, [22]) := rfl
theorem s_17_15 {d : Nat} {σ : xS} {st : List Value} {Q : xR → xS → Prop} {l0 l1 l2 l3 l4 l5 : Option Value} {x y : Int32} : G d 17 15 [l0, l1, l2, l3, l4, l5] (.int y :: .int x :: st) σ Q ↔ if x = y then G d 17 22 [l0, l1, l2, l3, l4, l5] st σ Q else G d 17 16 [l0, l1, l2, l3, l4, l5] st σ Q := gs_if f_17_15 rfl
theorem f_17_16 : ft 17 16 = some (27, .aload_n 0, []) := rfl
theorem s_17_16 {d : Nat} {σ : xS} {st : List Value} {Q : xR → xS → Prop} {l1 l2 l3 l4 l5 : Option Value} {x : Nat} : G d 17 16 [some (.ref x), l1, l2, l3, l4, l5] st σ Q ↔ G d 17 17 [some (.ref x), l1, l2, l3, l4, l5] (.ref x :: st) σ Q := gs_go f_17_16 rfl
theorem f_17_17 : ft 17 17 = some (28, .iload 4, []) := rfl
theorem s_17_17 {d : Nat} {σ : xS} {st : List Value} {Q : xR → xS → Prop} {l0 l1 l2 l3 l5 : Option Value} {x : Int32} : G d 17 17 [l0, l1, l2, l3, some (.int x), l5] st σ Q ↔ G d 17 18 [l0, l1, l2, l3, some (.int x), l5] (.int x :: st) σ Q := gs_go f_17_17 rfl
theorem f_17_18 : ft 17 18 = some (30, .invokevirtual 102, [18, 2, 0, 949]) := rfl
theorem s_17_18 {d : Nat} {t : yT} {st : List Value} {Q : xR → xS → Prop} {l0 l1 l2 l3 l4 l5 : Option Value} {a0 : Nat} {a1 : Int32} (ho : yisO 2 a0) : G (d + 1) 17 18 [l0, l1, l2, l3, l4, l5] (.int a1 :: .ref a0 :: st) (yemb t) Q ↔ xcat st ≤ 8 ∧ Cl d 18 [.ref a0, .int a1] (yemb t) (Gk (d + 1) 17 18 [l0, l1, l2, l3, l4, l5] st Q) := gs_call f_17_18 ((xinv_call (i := 18) (n := 949) (ls := [l0, l1, l2, l3, l4, l5]) (kind := 0) (σ := yemb t) (by decide)).trans (xcall_vi [.int a1, .ref a0] rfl rfl (show (2 : Nat) ≤ 3 by decide) rfl ho))
theorem f_17_19 : ft 17 19 = some (33, .ifCond .ne 65, [57]) := rfl
theorem s_17_19 {d : Nat} {σ : xS} {st : List Value} {Q : xR → xS → Prop} {l0 l1 l2 l3 l4 l5 : Option Value} {x : Int32} : G d 17 19 [l0, l1, l2, l3, l4, l5] (.int x :: st) σ Q ↔ if x ≠ 0 then G d 17 57 [l0, l1, l2, l3, l4, l5] st σ Q else G d 17 20 [l0, l1, l2, l3, l4, l5] st σ Q := gs_if f_17_19 rfl
theorem f_17_20 : ft 17 20 = some (36, .iconst 0, []) := rfl
theorem s_17_20 {d : Nat} {σ : xS} {st : List Value} {Q : xR → xS → Prop} {l0 l1 l2 l3 l4 l5 : Option Value} : G d 17 20 [l0, l1, l2, l3, l4, l5] st σ Q ↔ G d 17 21 [l0, l1, l2, l3, l4, l5] (.int (0) :: st) σ Q := gs_go f_17_20 rfl
theorem f_17_21 : ft 17 21 = some (37, .ireturn, []) := rfl
theorem s_17_21 {d : Nat} {σ : xS} {ls : xL} {Q : xR → xS → Prop} {x : Int32} : G d 17 21 ls [.int x] σ Q ↔ ybo x ∧ Q (.inl (some (.int x))) σ := gs_retb f_17_21 rfl
theorem f_17_22 : ft 17 22 = some (38, .aload_n 0, []) := rfl
theorem s_17_22 {d : Nat} {σ : xS} {st : List Value} {Q : xR → xS → Prop} {l1 l2 l3 l4 l5 : Option Value} {x : Nat} : G d 17 22 [some (.ref x), l1, l2, l3, l4, l5] st σ Q ↔ G d 17 23 [some (.ref x), l1, l2, l3, l4, l5] (.ref x :: st) σ Q := gs_go f_17_22 rfl
theorem f_17_23 : ft 17 23 = some (39, .getfield 18, [2, 5, 0, 274]) := rfl
theorem s_17_23 {d : Nat} {t : yT} {st : List Value} {Q : xR → xS → Prop} {l0 l1 l2 l3 l4 l5 : Option Value} {a : Nat} (ho : yisO 2 a) : G d 17 23 [l0, l1, l2, l3, l4, l5] (.ref a :: st) (yemb t) Q ↔ G d 17 24 [l0, l1, l2, l3, l4, l5] (.ref 37 :: st) (yemb t) Q := gs_getf (c := 2) (j := 5) (q := .c 37) f_17_23 ho rfl
theorem f_17_24 : ft 17 24 = some (42, .iload 4, []) := rfl
theorem s_17_24 {d : Nat} {σ : xS} {st : List Value} {Q : xR → xS → Prop} {l0 l1 l2 l3 l5 : Option Value} {x : Int32} : G d 17 24 [l0, l1, l2, l3, some (.int x), l5] st σ Q ↔ G d 17 25 [l0, l1, l2, l3, some (.int x), l5] (.int x :: st) σ Q := gs_go f_17_24 rfl
theorem f_17_25 : ft 17 25 = some (44, .iaload, []) := rfl
theorem s_17_25 {d : Nat} {t : yT} {st : List Value} {Q : xR → xS → Prop} {l0 l1 l2 l3 l4 l5 : Option Value} {a : Nat} {x : Int32} (ha : yA 0 a) : G d 17 25 [l0, l1, l2, l3, l4, l5] (.int x :: .ref a :: st) (yemb t) Q ↔ yix x (yn a) ∧ G d 17 26 [l0, l1, l2, l3, l4, l5] (.int (t.A a x.toNatClampNeg) :: st) (yemb t) Q := gs_iald f_17_25 ha
theorem f_17_26 : ft 17 26 = some (45, .iload 4, []) := rfl
theorem s_17_26 {d : Nat} {σ : xS} {st : List Value} {Q : xR → xS → Prop} {l0 l1 l2 l3 l5 : Option Value} {x : Int32} : G d 17 26 [l0, l1, l2, l3, some (.int x), l5] st σ Q ↔ G d 17 27 [l0, l1, l2, l3, some (.int x), l5] (.int x :: st) σ Q := gs_go f_17_26 rfl
theorem f_17_27 : ft 17 27 = some (47, .iconst 1, []) := rfl
theorem s_17_27 {d : Nat} {σ : xS} {st : List Value} {Q : xR → xS → Prop} {l0 l1 l2 l3 l4 l5 : Option Value} : G d 17 27 [l0, l1, l2, l3, l4, l5] st σ Q ↔ G d 17 28 [l0, l1, l2, l3, l4, l5] (.int (1) :: st) σ Q := gs_go f_17_27 rfl
theorem f_17_28 : ft 17 28 = some (48, .iadd, []) := rfl
theorem s_17_28 {d : Nat} {σ : xS} {st : List Value} {Q : xR → xS → Prop} {l0 l1 l2 l3 l4 l5 : Option Value} {x y : Int32} : G d 17 28 [l0, l1, l2, l3, l4, l5] (.int y :: .int x :: st) σ Q ↔ G d 17 29 [l0, l1, l2, l3, l4, l5] (.int (x + y) :: st) σ Q := gs_go f_17_28 rfl
theorem f_17_29 : ft 17 29 = some (49, .if_icmp .le 49, [57]) := rfl
theorem s_17_29 {d : Nat} {σ : xS} {st : List Value} {Q : xR → xS → Prop} {l0 l1 l2 l3 l4 l5 : Option Value} {x y : Int32} : G d 17 29 [l0, l1, l2, l3, l4, l5] (.int y :: .int x :: st) σ Q ↔ if x ≤ y then G d 17 57 [l0, l1, l2, l3, l4, l5] st σ Q else G d 17 30 [l0, l1, l2, l3, l4, l5] st σ Q := gs_if f_17_29 rfl
theorem f_17_30 : ft 17 30 = some (52, .iconst 0, []) := rfl
theorem s_17_30 {d : Nat} {σ : xS} {st : List Value} {Q : xR → xS → Prop} {l0 l1 l2 l3 l4 l5 : Option Value} : G d 17 30 [l0, l1, l2, l3, l4, l5] st σ Q ↔ G d 17 31 [l0, l1, l2, l3, l4, l5] (.int (0) :: st) σ Q := gs_go f_17_30 rfl
theorem f_17_31 : ft 17 31 = some (53, .istore 5, []) := rfl
theorem s_17_31 {d : Nat} {σ : xS} {st : List Value} {Q : xR → xS → Prop} {l0 l1 l2 l3 l4 l5 : Option Value} {x : Int32} : G d 17 31 [l0, l1, l2, l3, l4, l5] (.int x :: st) σ Q ↔ G d 17 32 [l0, l1, l2, l3, ykl l4, some (.int x)] st σ Q := by
  cases l4 with
  | none => exact gs_go f_17_31 rfl
  | some v => cases v <;> exact gs_go f_17_31 rfl
theorem f_17_32 : ft 17 32 = some (55, .iload 5, []) := rfl
theorem s_17_32 {d : Nat} {σ : xS} {st : List Value} {Q : xR → xS → Prop} {l0 l1 l2 l3 l4 : Option Value} {x : Int32} : G d 17 32 [l0, l1, l2, l3, l4, some (.int x)] st σ Q ↔ G d 17 33 [l0, l1, l2, l3, l4, some (.int x)] (.int x :: st) σ Q := gs_go f_17_32 rfl
theorem f_17_33 : ft 17 33 = some (57, .aload_n 0, []) := rfl
theorem s_17_33 {d : Nat} {σ : xS} {st : List Value} {Q : xR → xS → Prop} {l1 l2 l3 l4 l5 : Option Value} {x : Nat} : G d 17 33 [some (.ref x), l1, l2, l3, l4, l5] st σ Q ↔ G d 17 34 [some (.ref x), l1, l2, l3, l4, l5] (.ref x :: st) σ Q := gs_go f_17_33 rfl
theorem f_17_34 : ft 17 34 = some (58, .getfield 15, [2, 4, 0, 273]) := rfl
theorem s_17_34 {d : Nat} {t : yT} {st : List Value} {Q : xR → xS → Prop} {l0 l1 l2 l3 l4 l5 : Option Value} {a : Nat} (ho : yisO 2 a) : G d 17 34 [l0, l1, l2, l3, l4, l5] (.ref a :: st) (yemb t) Q ↔ G d 17 35 [l0, l1, l2, l3, l4, l5] (.ref 36 :: st) (yemb t) Q := gs_getf (c := 2) (j := 4) (q := .c 36) f_17_34 ho rfl
theorem f_17_35 : ft 17 35 = some (61, .iconst 5, []) := rfl
theorem s_17_35 {d : Nat} {σ : xS} {st : List Value} {Q : xR → xS → Prop} {l0 l1 l2 l3 l4 l5 : Option Value} : G d 17 35 [l0, l1, l2, l3, l4, l5] st σ Q ↔ G d 17 36 [l0, l1, l2, l3, l4, l5] (.int (5) :: st) σ Q := gs_go f_17_35 rfl
theorem f_17_36 : ft 17 36 = some (62, .iload 4, []) := rfl
theorem s_17_36 {d : Nat} {σ : xS} {st : List Value} {Q : xR → xS → Prop} {l0 l1 l2 l3 l5 : Option Value} {x : Int32} : G d 17 36 [l0, l1, l2, l3, some (.int x), l5] st σ Q ↔ G d 17 37 [l0, l1, l2, l3, some (.int x), l5] (.int x :: st) σ Q := gs_go f_17_36 rfl
theorem f_17_37 : ft 17 37 = some (64, .imul, []) := rfl
theorem s_17_37 {d : Nat} {σ : xS} {st : List Value} {Q : xR → xS → Prop} {l0 l1 l2 l3 l4 l5 : Option Value} {x y : Int32} : G d 17 37 [l0, l1, l2, l3, l4, l5] (.int y :: .int x :: st) σ Q ↔ G d 17 38 [l0, l1, l2, l3, l4, l5] (.int (x * y) :: st) σ Q := gs_go f_17_37 rfl
theorem f_17_38 : ft 17 38 = some (65, .iaload, []) := rfl
theorem s_17_38 {d : Nat} {t : yT} {st : List Value} {Q : xR → xS → Prop} {l0 l1 l2 l3 l4 l5 : Option Value} {a : Nat} {x : Int32} (ha : yA 0 a) : G d 17 38 [l0, l1, l2, l3, l4, l5] (.int x :: .ref a :: st) (yemb t) Q ↔ yix x (yn a) ∧ G d 17 39 [l0, l1, l2, l3, l4, l5] (.int (t.A a x.toNatClampNeg) :: st) (yemb t) Q := gs_iald f_17_38 ha
theorem f_17_39 : ft 17 39 = some (66, .if_icmp .ge 32, [57]) := rfl
theorem s_17_39 {d : Nat} {σ : xS} {st : List Value} {Q : xR → xS → Prop} {l0 l1 l2 l3 l4 l5 : Option Value} {x y : Int32} : G d 17 39 [l0, l1, l2, l3, l4, l5] (.int y :: .int x :: st) σ Q ↔ if y ≤ x then G d 17 57 [l0, l1, l2, l3, l4, l5] st σ Q else G d 17 40 [l0, l1, l2, l3, l4, l5] st σ Q := gs_if f_17_39 rfl
theorem f_17_40 : ft 17 40 = some (69, .aload_n 0, []) := rfl
theorem s_17_40 {d : Nat} {σ : xS} {st : List Value} {Q : xR → xS → Prop} {l1 l2 l3 l4 l5 : Option Value} {x : Nat} : G d 17 40 [some (.ref x), l1, l2, l3, l4, l5] st σ Q ↔ G d 17 41 [some (.ref x), l1, l2, l3, l4, l5] (.ref x :: st) σ Q := gs_go f_17_40 rfl
theorem f_17_41 : ft 17 41 = some (70, .iload 4, []) := rfl
theorem s_17_41 {d : Nat} {σ : xS} {st : List Value} {Q : xR → xS → Prop} {l0 l1 l2 l3 l5 : Option Value} {x : Int32} : G d 17 41 [l0, l1, l2, l3, some (.int x), l5] st σ Q ↔ G d 17 42 [l0, l1, l2, l3, some (.int x), l5] (.int x :: st) σ Q := gs_go f_17_41 rfl
theorem f_17_42 : ft 17 42 = some (72, .iconst 1, []) := rfl
theorem s_17_42 {d : Nat} {σ : xS} {st : List Value} {Q : xR → xS → Prop} {l0 l1 l2 l3 l4 l5 : Option Value} : G d 17 42 [l0, l1, l2, l3, l4, l5] st σ Q ↔ G d 17 43 [l0, l1, l2, l3, l4, l5] (.int (1) :: st) σ Q := gs_go f_17_42 rfl
theorem f_17_43 : ft 17 43 = some (73, .iadd, []) := rfl
theorem s_17_43 {d : Nat} {σ : xS} {st : List Value} {Q : xR → xS → Prop} {l0 l1 l2 l3 l4 l5 : Option Value} {x y : Int32} : G d 17 43 [l0, l1, l2, l3, l4, l5] (.int y :: .int x :: st) σ Q ↔ G d 17 44 [l0, l1, l2, l3, l4, l5] (.int (x + y) :: st) σ Q := gs_go f_17_43 rfl
theorem f_17_44 : ft 17 44 = some (74, .aload_n 0, []) := rfl
theorem s_17_44 {d : Nat} {σ : xS} {st : List Value} {Q : xR → xS → Prop} {l1 l2 l3 l4 l5 : Option Value} {x : Nat} : G d 17 44 [some (.ref x), l1, l2, l3, l4, l5] st σ Q ↔ G d 17 45 [some (.ref x), l1, l2, l3, l4, l5] (.ref x :: st) σ Q := gs_go f_17_44 rfl
theorem f_17_45 : ft 17 45 = some (75, .getfield 18, [2, 5, 0, 274]) := rfl
theorem s_17_45 {d : Nat} {t : yT} {st : List Value} {Q : xR → xS → Prop} {l0 l1 l2 l3 l4 l5 : Option Value} {a : Nat} (ho : yisO 2 a) : G d 17 45 [l0, l1, l2, l3, l4, l5] (.ref a :: st) (yemb t) Q ↔ G d 17 46 [l0, l1, l2, l3, l4, l5] (.ref 37 :: st) (yemb t) Q := gs_getf (c := 2) (j := 5) (q := .c 37) f_17_45 ho rfl
theorem f_17_46 : ft 17 46 = some (78, .iload 4, []) := rfl
theorem s_17_46 {d : Nat} {σ : xS} {st : List Value} {Q : xR → xS → Prop} {l0 l1 l2 l3 l5 : Option Value} {x : Int32} : G d 17 46 [l0, l1, l2, l3, some (.int x), l5] st σ Q ↔ G d 17 47 [l0, l1, l2, l3, some (.int x), l5] (.int x :: st) σ Q := gs_go f_17_46 rfl
theorem f_17_47 : ft 17 47 = some (80, .iaload, []) := rfl
theorem s_17_47 {d : Nat} {t : yT} {st : List Value} {Q : xR → xS → Prop} {l0 l1 l2 l3 l4 l5 : Option Value} {a : Nat} {x : Int32} (ha : yA 0 a) : G d 17 47 [l0, l1, l2, l3, l4, l5] (.int x :: .ref a :: st) (yemb t) Q ↔ yix x (yn a) ∧ G d 17 48 [l0, l1, l2, l3, l4, l5] (.int (t.A a x.toNatClampNeg) :: st) (yemb t) Q := gs_iald f_17_47 ha
theorem f_17_48 : ft 17 48 = some (81, .iload_n 3, []) := rfl
theorem s_17_48 {d : Nat} {σ : xS} {st : List Value} {Q : xR → xS → Prop} {l0 l1 l2 l4 l5 : Option Value} {x : Int32} : G d 17 48 [l0, l1, l2, some (.int x), l4, l5] st σ Q ↔ G d 17 49 [l0, l1, l2, some (.int x), l4, l5] (.int x :: st) σ Q := gs_go f_17_48 rfl
theorem f_17_49 : ft 17 49 = some (82, .iconst 1, []) := rfl
theorem s_17_49 {d : Nat} {σ : xS} {st : List Value} {Q : xR → xS → Prop} {l0 l1 l2 l3 l4 l5 : Option Value} : G d 17 49 [l0, l1, l2, l3, l4, l5] st σ Q ↔ G d 17 50 [l0, l1, l2, l3, l4, l5] (.int (1) :: st) σ Q := gs_go f_17_49 rfl
theorem f_17_50 : ft 17 50 = some (83, .iadd, []) := rfl
theorem s_17_50 {d : Nat} {σ : xS} {st : List Value} {Q : xR → xS → Prop} {l0 l1 l2 l3 l4 l5 : Option Value} {x y : Int32} : G d 17 50 [l0, l1, l2, l3, l4, l5] (.int y :: .int x :: st) σ Q ↔ G d 17 51 [l0, l1, l2, l3, l4, l5] (.int (x + y) :: st) σ Q := gs_go f_17_50 rfl
theorem f_17_51 : ft 17 51 = some (84, .invokevirtual 105, [17, 4, 0, 1054]) := rfl
theorem s_17_51 {d : Nat} {t : yT} {st : List Value} {Q : xR → xS → Prop} {l0 l1 l2 l3 l4 l5 : Option Value} {a0 : Nat} {a1 : Int32} {a2 : Int32} {a3 : Int32} (ho : yisO 2 a0) : G (d + 1) 17 51 [l0, l1, l2, l3, l4, l5] (.int a3 :: .int a2 :: .int a1 :: .ref a0 :: st) (yemb t) Q ↔ xcat st ≤ 8 ∧ Cl d 17 [.ref a0, .int a1, .int a2, .int a3] (yemb t) (Gk (d + 1) 17 51 [l0, l1, l2, l3, l4, l5] st Q) := gs_call f_17_51 ((xinv_call (i := 51) (n := 1054) (ls := [l0, l1, l2, l3, l4, l5]) (kind := 0) (σ := yemb t) (by decide)).trans (xcall_vi [.int a3, .int a2, .int a1, .ref a0] rfl rfl (show (4 : Nat) ≤ 6 by decide) rfl ho))
theorem f_17_52 : ft 17 52 = some (87, .ifCond .ne 5, [55]) := rfl
theorem s_17_52 {d : Nat} {σ : xS} {st : List Value} {Q : xR → xS → Prop} {l0 l1 l2 l3 l4 l5 : Option Value} {x : Int32} : G d 17 52 [l0, l1, l2, l3, l4, l5] (.int x :: st) σ Q ↔ if x ≠ 0 then G d 17 55 [l0, l1, l2, l3, l4, l5] st σ Q else G d 17 53 [l0, l1, l2, l3, l4, l5] st σ Q := gs_if f_17_52 rfl
theorem f_17_53 : ft 17 53 = some (90, .iconst 0, []) := rfl
theorem s_17_53 {d : Nat} {σ : xS} {st : List Value} {Q : xR → xS → Prop} {l0 l1 l2 l3 l4 l5 : Option Value} : G d 17 53 [l0, l1, l2, l3, l4, l5] st σ Q ↔ G d 17 54 [l0, l1, l2, l3, l4, l5] (.int (0) :: st) σ Q := gs_go f_17_53 rfl
theorem f_17_54 : ft 17 54 = some (91, .ireturn, []) := rfl
theorem s_17_54 {d : Nat} {σ : xS} {ls : xL} {Q : xR → xS → Prop} {x : Int32} : G d 17 54 ls [.int x] σ Q ↔ ybo x ∧ Q (.inl (some (.int x))) σ := gs_retb f_17_54 rfl
theorem f_17_55 : ft 17 55 = some (92, .iinc 5 1, []) := rfl
theorem s_17_55 {d : Nat} {σ : xS} {st : List Value} {Q : xR → xS → Prop} {l0 l1 l2 l3 l4 : Option Value} {x : Int32} : G d 17 55 [l0, l1, l2, l3, l4, some (.int x)] st σ Q ↔ G d 17 56 [l0, l1, l2, l3, ykl l4, some (.int (x + 1))] st σ Q := by
  cases l4 with
  | none => exact gs_go f_17_55 rfl
  | some v => cases v <;> exact gs_go f_17_55 rfl
theorem f_17_56 : ft 17 56 = some (95, .goto (-40), [32]) := rfl
theorem s_17_56 {d : Nat} {σ : xS} {st : List Value} {Q : xR → xS → Prop} {l0 l1 l2 l3 l4 l5 : Option Value} : G d 17 56 [l0, l1, l2, l3, l4, l5] st σ Q ↔ G d 17 32 [l0, l1, l2, l3, l4, l5] st σ Q := gs_go f_17_56 rfl
theorem f_17_57 : ft 17 57 = some (98, .iload 4, []) := rfl
theorem s_17_57 {d : Nat} {σ : xS} {st : List Value} {Q : xR → xS → Prop} {l0 l1 l2 l3 l5 : Option Value} {x : Int32} : G d 17 57 [l0, l1, l2, l3, some (.int x), l5] st σ Q ↔ G d 17 58 [l0, l1, l2, l3, some (.int x), l5] (.int x :: st) σ Q := gs_go f_17_57 rfl
theorem f_17_58 : ft 17 58 = some (100, .iconst 1, []) := rfl
theorem s_17_58 {d : Nat} {σ : xS} {st : List Value} {Q : xR → xS → Prop} {l0 l1 l2 l3 l4 l5 : Option Value} : G d 17 58 [l0, l1, l2, l3, l4, l5] st σ Q ↔ G d 17 59 [l0, l1, l2, l3, l4, l5] (.int (1) :: st) σ Q := gs_go f_17_58 rfl
theorem f_17_59 : ft 17 59 = some (101, .iadd, []) := rfl
theorem s_17_59 {d : Nat} {σ : xS} {st : List Value} {Q : xR → xS → Prop} {l0 l1 l2 l3 l4 l5 : Option Value} {x y : Int32} : G d 17 59 [l0, l1, l2, l3, l4, l5] (.int y :: .int x :: st) σ Q ↔ G d 17 60 [l0, l1, l2, l3, l4, l5] (.int (x + y) :: st) σ Q := gs_go f_17_59 rfl
theorem f_17_60 : ft 17 60 = some (102, .aload_n 0, []) := rfl
theorem s_17_60 {d : Nat} {σ : xS} {st : List Value} {Q : xR → xS → Prop} {l1 l2 l3 l4 l5 : Option Value} {x : Nat} : G d 17 60 [some (.ref x), l1, l2, l3, l4, l5] st σ Q ↔ G d 17 61 [some (.ref x), l1, l2, l3, l4, l5] (.ref x :: st) σ Q := gs_go f_17_60 rfl
theorem f_17_61 : ft 17 61 = some (103, .getfield 18, [2, 5, 0, 274]) := rfl
theorem s_17_61 {d : Nat} {t : yT} {st : List Value} {Q : xR → xS → Prop} {l0 l1 l2 l3 l4 l5 : Option Value} {a : Nat} (ho : yisO 2 a) : G d 17 61 [l0, l1, l2, l3, l4, l5] (.ref a :: st) (yemb t) Q ↔ G d 17 62 [l0, l1, l2, l3, l4, l5] (.ref 37 :: st) (yemb t) Q := gs_getf (c := 2) (j := 5) (q := .c 37) f_17_61 ho rfl
theorem f_17_62 : ft 17 62 = some (106, .iload 4, []) := rfl
theorem s_17_62 {d : Nat} {σ : xS} {st : List Value} {Q : xR → xS → Prop} {l0 l1 l2 l3 l5 : Option Value} {x : Int32} : G d 17 62 [l0, l1, l2, l3, some (.int x), l5] st σ Q ↔ G d 17 63 [l0, l1, l2, l3, some (.int x), l5] (.int x :: st) σ Q := gs_go f_17_62 rfl
theorem f_17_63 : ft 17 63 = some (108, .iaload, []) := rfl
theorem s_17_63 {d : Nat} {t : yT} {st : List Value} {Q : xR → xS → Prop} {l0 l1 l2 l3 l4 l5 : Option Value} {a : Nat} {x : Int32} (ha : yA 0 a) : G d 17 63 [l0, l1, l2, l3, l4, l5] (.int x :: .ref a :: st) (yemb t) Q ↔ yix x (yn a) ∧ G d 17 64 [l0, l1, l2, l3, l4, l5] (.int (t.A a x.toNatClampNeg) :: st) (yemb t) Q := gs_iald f_17_63 ha
theorem f_17_64 : ft 17 64 = some (109, .invokestatic 109, [0, 2, 24, 1055]) := rfl
theorem s_17_64 {d : Nat} {σ : xS} {st : List Value} {Q : xR → xS → Prop} {l0 l1 l2 l3 l4 l5 : Option Value} {x y : Int32} (h : xcat st ≤ 8) : G d 17 64 [l0, l1, l2, l3, l4, l5] (.int y :: .int x :: st) σ Q ↔ G d 17 65 [l0, l1, l2, l3, l4, l5] (.int (if x < y then y else x) :: st) σ Q := gs_go f_17_64 (if_pos h)
theorem f_17_65 : ft 17 65 = some (112, .istore 4, []) := rfl
theorem s_17_65 {d : Nat} {σ : xS} {st : List Value} {Q : xR → xS → Prop} {l0 l1 l2 l3 l4 l5 : Option Value} {x : Int32} : G d 17 65 [l0, l1, l2, l3, l4, l5] (.int x :: st) σ Q ↔ G d 17 66 [l0, l1, l2, ykl l3, some (.int x), l5] st σ Q := by
  cases l3 with
  | none => exact gs_go f_17_65 rfl
  | some v => cases v <;> exact gs_go f_17_65 rfl
theorem f_17_66 : ft 17 66 = some (114, .goto (-104), [7]) := rfl
theorem s_17_66 {d : Nat} {σ : xS} {st : List Value} {Q : xR → xS → Prop} {l0 l1 l2 l3 l4 l5 : Option Value} : G d 17 66 [l0, l1, l2, l3, l4, l5] st σ Q ↔ G d 17 7 [l0, l1, l2, l3, l4, l5] st σ Q := gs_go f_17_66 rfl
theorem f_17_67 : ft 17 67 = some (117, .iconst 1, []) := rfl
theorem s_17_67 {d : Nat} {σ : xS} {st : List Value} {Q : xR → xS → Prop} {l0 l1 l2 l3 l4 l5 : Option Value} : G d 17 67 [l0, l1, l2, l3, l4, l5] st σ Q ↔ G d 17 68 [l0, l1, l2, l3, l4, l5] (.int (1) :: st) σ Q := gs_go f_17_67 rfl
theorem f_17_68 : ft 17 68 = some (118, .ireturn, []) := rfl
theorem s_17_68 {d : Nat} {σ : xS} {ls : xL} {Q : xR → xS → Prop} {x : Int32} : G d 17 68 ls [.int x] σ Q ↔ ybo x ∧ Q (.inl (some (.int x))) σ := gs_retb f_17_68 rfl
theorem f_18_0 : ft 18 0 = some (0, .aload_n 0, []) := rfl
theorem s_18_0 {d : Nat} {σ : xS} {st : List Value} {Q : xR → xS → Prop} {l1 l2 : Option Value} {x : Nat} : G d 18 0 [some (.ref x), l1, l2] st σ Q ↔ G d 18 1 [some (.ref x), l1, l2] (.ref x :: st) σ Q := gs_go f_18_0 rfl
theorem f_18_1 : ft 18 1 = some (1, .aload_n 0, []) := rfl
theorem s_18_1 {d : Nat} {σ : xS} {st : List Value} {Q : xR → xS → Prop} {l1 l2 : Option Value} {x : Nat} : G d 18 1 [some (.ref x), l1, l2] st σ Q ↔ G d 18 2 [some (.ref x), l1, l2] (.ref x :: st) σ Q := gs_go f_18_1 rfl
theorem f_18_2 : ft 18 2 = some (2, .getfield 25, [2, 7, 0, 276]) := rfl
theorem s_18_2 {d : Nat} {t : yT} {st : List Value} {Q : xR → xS → Prop} {l0 l1 l2 : Option Value} {a : Nat} (ho : yisO 2 a) : G d 18 2 [l0, l1, l2] (.ref a :: st) (yemb t) Q ↔ G d 18 3 [l0, l1, l2] (.int (t.A a 7) :: st) (yemb t) Q := gs_getf (c := 2) (j := 7) (q := .i) f_18_2 ho rfl
theorem f_18_3 : ft 18 3 = some (5, .sipush 200, []) := rfl
theorem s_18_3 {d : Nat} {σ : xS} {st : List Value} {Q : xR → xS → Prop} {l0 l1 l2 : Option Value} : G d 18 3 [l0, l1, l2] st σ Q ↔ G d 18 4 [l0, l1, l2] (.int (200) :: st) σ Q := gs_go f_18_3 rfl
theorem f_18_4 : ft 18 4 = some (8, .if_icmp .lt 7, [7]) := rfl
theorem s_18_4 {d : Nat} {σ : xS} {st : List Value} {Q : xR → xS → Prop} {l0 l1 l2 : Option Value} {x y : Int32} : G d 18 4 [l0, l1, l2] (.int y :: .int x :: st) σ Q ↔ if x < y then G d 18 7 [l0, l1, l2] st σ Q else G d 18 5 [l0, l1, l2] st σ Q := gs_if f_18_4 rfl
theorem f_18_5 : ft 18 5 = some (11, .iconst 1, []) := rfl
theorem s_18_5 {d : Nat} {σ : xS} {st : List Value} {Q : xR → xS → Prop} {l0 l1 l2 : Option Value} : G d 18 5 [l0, l1, l2] st σ Q ↔ G d 18 6 [l0, l1, l2] (.int (1) :: st) σ Q := gs_go f_18_5 rfl
theorem f_18_6 : ft 18 6 = some (12, .goto 8, [10]) := rfl
theorem s_18_6 {d : Nat} {σ : xS} {st : List Value} {Q : xR → xS → Prop} {l0 l1 l2 : Option Value} : G d 18 6 [l0, l1, l2] st σ Q ↔ G d 18 10 [l0, l1, l2] st σ Q := gs_go f_18_6 rfl
theorem f_18_7 : ft 18 7 = some (15, .aload_n 0, []) := rfl
theorem s_18_7 {d : Nat} {σ : xS} {st : List Value} {Q : xR → xS → Prop} {l1 l2 : Option Value} {x : Nat} : G d 18 7 [some (.ref x), l1, l2] st σ Q ↔ G d 18 8 [some (.ref x), l1, l2] (.ref x :: st) σ Q := gs_go f_18_7 rfl
theorem f_18_8 : ft 18 8 = some (16, .iload_n 1, []) := rfl
theorem s_18_8 {d : Nat} {σ : xS} {st : List Value} {Q : xR → xS → Prop} {l0 l2 : Option Value} {x : Int32} : G d 18 8 [l0, some (.int x), l2] st σ Q ↔ G d 18 9 [l0, some (.int x), l2] (.int x :: st) σ Q := gs_go f_18_8 rfl
theorem f_18_9 : ft 18 9 = some (17, .invokevirtual 114, [19, 2, 0, 953]) := rfl
theorem s_18_9 {d : Nat} {t : yT} {st : List Value} {Q : xR → xS → Prop} {l0 l1 l2 : Option Value} {a0 : Nat} {a1 : Int32} (ho : yisO 2 a0) : G (d + 1) 18 9 [l0, l1, l2] (.int a1 :: .ref a0 :: st) (yemb t) Q ↔ xcat st ≤ 8 ∧ Cl d 19 [.ref a0, .int a1] (yemb t) (Gk (d + 1) 18 9 [l0, l1, l2] st Q) := gs_call f_18_9 ((xinv_call (i := 9) (n := 953) (ls := [l0, l1, l2]) (kind := 0) (σ := yemb t) (by decide)).trans (xcall_vi [.int a1, .ref a0] rfl rfl (show (2 : Nat) ≤ 3 by decide) rfl ho))
theorem f_18_10 : ft 18 10 = some (20, .putfield 28, [2, 8, 0, 277]) := rfl
theorem s_18_10 {d : Nat} {t : yT} {st : List Value} {Q : xR → xS → Prop} {l0 l1 l2 : Option Value} {a : Nat} {x : Int32} (ho : yisO 2 a) : G d 18 10 [l0, l1, l2] (.int x :: .ref a :: st) (yemb t) Q ↔ G d 18 11 [l0, l1, l2] st (yemb (t.s1 a 8 x)) Q := gs_putI (c := 2) (j := 8) f_18_10 (fun _ => rfl) rfl rfl ho
theorem f_18_11 : ft 18 11 = some (23, .aload_n 0, []) := rfl
theorem s_18_11 {d : Nat} {σ : xS} {st : List Value} {Q : xR → xS → Prop} {l1 l2 : Option Value} {x : Nat} : G d 18 11 [some (.ref x), l1, l2] st σ Q ↔ G d 18 12 [some (.ref x), l1, l2] (.ref x :: st) σ Q := gs_go f_18_11 rfl
theorem f_18_12 : ft 18 12 = some (24, .getfield 28, [2, 8, 0, 277]) := rfl
theorem s_18_12 {d : Nat} {t : yT} {st : List Value} {Q : xR → xS → Prop} {l0 l1 l2 : Option Value} {a : Nat} (ho : yisO 2 a) : G d 18 12 [l0, l1, l2] (.ref a :: st) (yemb t) Q ↔ G d 18 13 [l0, l1, l2] (.int (t.A a 8) :: st) (yemb t) Q := gs_getf (c := 2) (j := 8) (q := .i) f_18_12 ho rfl
theorem f_18_13 : ft 18 13 = some (27, .ifCond .eq 5, [16]) := rfl
theorem s_18_13 {d : Nat} {σ : xS} {st : List Value} {Q : xR → xS → Prop} {l0 l1 l2 : Option Value} {x : Int32} : G d 18 13 [l0, l1, l2] (.int x :: st) σ Q ↔ if x = 0 then G d 18 16 [l0, l1, l2] st σ Q else G d 18 14 [l0, l1, l2] st σ Q := gs_if f_18_13 rfl
theorem f_18_14 : ft 18 14 = some (30, .iconst 0, []) := rfl
theorem s_18_14 {d : Nat} {σ : xS} {st : List Value} {Q : xR → xS → Prop} {l0 l1 l2 : Option Value} : G d 18 14 [l0, l1, l2] st σ Q ↔ G d 18 15 [l0, l1, l2] (.int (0) :: st) σ Q := gs_go f_18_14 rfl
theorem f_18_15 : ft 18 15 = some (31, .ireturn, []) := rfl
theorem s_18_15 {d : Nat} {σ : xS} {ls : xL} {Q : xR → xS → Prop} {x : Int32} : G d 18 15 ls [.int x] σ Q ↔ ybo x ∧ Q (.inl (some (.int x))) σ := gs_retb f_18_15 rfl
theorem f_18_16 : ft 18 16 = some (32, .iconst 5, []) := rfl
theorem s_18_16 {d : Nat} {σ : xS} {st : List Value} {Q : xR → xS → Prop} {l0 l1 l2 : Option Value} : G d 18 16 [l0, l1, l2] st σ Q ↔ G d 18 17 [l0, l1, l2] (.int (5) :: st) σ Q := gs_go f_18_16 rfl
theorem f_18_17 : ft 18 17 = some (33, .iload_n 1, []) := rfl
theorem s_18_17 {d : Nat} {σ : xS} {st : List Value} {Q : xR → xS → Prop} {l0 l2 : Option Value} {x : Int32} : G d 18 17 [l0, some (.int x), l2] st σ Q ↔ G d 18 18 [l0, some (.int x), l2] (.int x :: st) σ Q := gs_go f_18_17 rfl
theorem f_18_18 : ft 18 18 = some (34, .imul, []) := rfl
theorem s_18_18 {d : Nat} {σ : xS} {st : List Value} {Q : xR → xS → Prop} {l0 l1 l2 : Option Value} {x y : Int32} : G d 18 18 [l0, l1, l2] (.int y :: .int x :: st) σ Q ↔ G d 18 19 [l0, l1, l2] (.int (x * y) :: st) σ Q := gs_go f_18_18 rfl
theorem f_18_19 : ft 18 19 = some (35, .istore_n 2, []) := rfl
theorem s_18_19 {d : Nat} {σ : xS} {st : List Value} {Q : xR → xS → Prop} {l0 l1 l2 : Option Value} {x : Int32} : G d 18 19 [l0, l1, l2] (.int x :: st) σ Q ↔ G d 18 20 [l0, ykl l1, some (.int x)] st σ Q := by
  cases l1 with
  | none => exact gs_go f_18_19 rfl
  | some v => cases v <;> exact gs_go f_18_19 rfl
theorem f_18_20 : ft 18 20 = some (36, .aload_n 0, []) := rfl
theorem s_18_20 {d : Nat} {σ : xS} {st : List Value} {Q : xR → xS → Prop} {l1 l2 : Option Value} {x : Nat} : G d 18 20 [some (.ref x), l1, l2] st σ Q ↔ G d 18 21 [some (.ref x), l1, l2] (.ref x :: st) σ Q := gs_go f_18_20 rfl
theorem f_18_21 : ft 18 21 = some (37, .getfield 11, [2, 3, 0, 272]) := rfl
theorem s_18_21 {d : Nat} {t : yT} {st : List Value} {Q : xR → xS → Prop} {l0 l1 l2 : Option Value} {a : Nat} (ho : yisO 2 a) : G d 18 21 [l0, l1, l2] (.ref a :: st) (yemb t) Q ↔ G d 18 22 [l0, l1, l2] (.ref 35 :: st) (yemb t) Q := gs_getf (c := 2) (j := 3) (q := .c 35) f_18_21 ho rfl
theorem f_18_22 : ft 18 22 = some (40, .iload_n 1, []) := rfl
theorem s_18_22 {d : Nat} {σ : xS} {st : List Value} {Q : xR → xS → Prop} {l0 l2 : Option Value} {x : Int32} : G d 18 22 [l0, some (.int x), l2] st σ Q ↔ G d 18 23 [l0, some (.int x), l2] (.int x :: st) σ Q := gs_go f_18_22 rfl
theorem f_18_23 : ft 18 23 = some (41, .iaload, []) := rfl
theorem s_18_23 {d : Nat} {t : yT} {st : List Value} {Q : xR → xS → Prop} {l0 l1 l2 : Option Value} {a : Nat} {x : Int32} (ha : yA 0 a) : G d 18 23 [l0, l1, l2] (.int x :: .ref a :: st) (yemb t) Q ↔ yix x (yn a) ∧ G d 18 24 [l0, l1, l2] (.int (t.A a x.toNatClampNeg) :: st) (yemb t) Q := gs_iald f_18_23 ha
theorem f_18_24 : ft 18 24 = some (42, .tableswitch 129 0 3 #[30, 82, 99, 115], [82, 25, 59, 68, 76]) := rfl
theorem s_18_24_0 {d : Nat} {σ : xS} {st : List Value} {Q : xR → xS → Prop} {l0 l1 l2 : Option Value} : G d 18 24 [l0, l1, l2] (.int (0) :: st) σ Q ↔ G d 18 25 [l0, l1, l2] st σ Q := gs_go f_18_24 rfl
theorem s_18_24_1 {d : Nat} {σ : xS} {st : List Value} {Q : xR → xS → Prop} {l0 l1 l2 : Option Value} : G d 18 24 [l0, l1, l2] (.int (1) :: st) σ Q ↔ G d 18 59 [l0, l1, l2] st σ Q := gs_go f_18_24 rfl
theorem s_18_24_2 {d : Nat} {σ : xS} {st : List Value} {Q : xR → xS → Prop} {l0 l1 l2 : Option Value} : G d 18 24 [l0, l1, l2] (.int (2) :: st) σ Q ↔ G d 18 68 [l0, l1, l2] st σ Q := gs_go f_18_24 rfl
theorem s_18_24_3 {d : Nat} {σ : xS} {st : List Value} {Q : xR → xS → Prop} {l0 l1 l2 : Option Value} : G d 18 24 [l0, l1, l2] (.int (3) :: st) σ Q ↔ G d 18 76 [l0, l1, l2] st σ Q := gs_go f_18_24 rfl
theorem s_18_24_d {d : Nat} {σ : xS} {st : List Value} {Q : xR → xS → Prop} {l0 l1 l2 : Option Value} {x : Int32} (h : x.toInt < 0 ∨ 3 < x.toInt) : G d 18 24 [l0, l1, l2] (.int x :: st) σ Q ↔ G d 18 82 [l0, l1, l2] st σ Q := gs_go f_18_24 (if_pos h)
theorem f_18_25 : ft 18 25 = some (72, .aload_n 0, []) := rfl
theorem s_18_25 {d : Nat} {σ : xS} {st : List Value} {Q : xR → xS → Prop} {l1 l2 : Option Value} {x : Nat} : G d 18 25 [some (.ref x), l1, l2] st σ Q ↔ G d 18 26 [some (.ref x), l1, l2] (.ref x :: st) σ Q := gs_go f_18_25 rfl
theorem f_18_26 : ft 18 26 = some (73, .getfield 35, [2, 1, 0, 270]) := rfl
theorem s_18_26 {d : Nat} {t : yT} {st : List Value} {Q : xR → xS → Prop} {l0 l1 l2 : Option Value} {a : Nat} (ho : yisO 2 a) : G d 18 26 [l0, l1, l2] (.ref a :: st) (yemb t) Q ↔ G d 18 27 [l0, l1, l2] (.ref 7 :: st) (yemb t) Q := gs_getf (c := 2) (j := 1) (q := .c 7) f_18_26 ho rfl
theorem f_18_27 : ft 18 27 = some (76, .aload_n 0, []) := rfl
theorem s_18_27 {d : Nat} {σ : xS} {st : List Value} {Q : xR → xS → Prop} {l1 l2 : Option Value} {x : Nat} : G d 18 27 [some (.ref x), l1, l2] st σ Q ↔ G d 18 28 [some (.ref x), l1, l2] (.ref x :: st) σ Q := gs_go f_18_27 rfl
theorem f_18_28 : ft 18 28 = some (77, .getfield 15, [2, 4, 0, 273]) := rfl
theorem s_18_28 {d : Nat} {t : yT} {st : List Value} {Q : xR → xS → Prop} {l0 l1 l2 : Option Value} {a : Nat} (ho : yisO 2 a) : G d 18 28 [l0, l1, l2] (.ref a :: st) (yemb t) Q ↔ G d 18 29 [l0, l1, l2] (.ref 36 :: st) (yemb t) Q := gs_getf (c := 2) (j := 4) (q := .c 36) f_18_28 ho rfl
theorem f_18_29 : ft 18 29 = some (80, .iload_n 2, []) := rfl
theorem s_18_29 {d : Nat} {σ : xS} {st : List Value} {Q : xR → xS → Prop} {l0 l1 : Option Value} {x : Int32} : G d 18 29 [l0, l1, some (.int x)] st σ Q ↔ G d 18 30 [l0, l1, some (.int x)] (.int x :: st) σ Q := gs_go f_18_29 rfl
theorem f_18_30 : ft 18 30 = some (81, .iaload, []) := rfl
theorem s_18_30 {d : Nat} {t : yT} {st : List Value} {Q : xR → xS → Prop} {l0 l1 l2 : Option Value} {a : Nat} {x : Int32} (ha : yA 0 a) : G d 18 30 [l0, l1, l2] (.int x :: .ref a :: st) (yemb t) Q ↔ yix x (yn a) ∧ G d 18 31 [l0, l1, l2] (.int (t.A a x.toNatClampNeg) :: st) (yemb t) Q := gs_iald f_18_30 ha
theorem f_18_31 : ft 18 31 = some (82, .aload_n 0, []) := rfl
theorem s_18_31 {d : Nat} {σ : xS} {st : List Value} {Q : xR → xS → Prop} {l1 l2 : Option Value} {x : Nat} : G d 18 31 [some (.ref x), l1, l2] st σ Q ↔ G d 18 32 [some (.ref x), l1, l2] (.ref x :: st) σ Q := gs_go f_18_31 rfl
theorem f_18_32 : ft 18 32 = some (83, .getfield 15, [2, 4, 0, 273]) := rfl
theorem s_18_32 {d : Nat} {t : yT} {st : List Value} {Q : xR → xS → Prop} {l0 l1 l2 : Option Value} {a : Nat} (ho : yisO 2 a) : G d 18 32 [l0, l1, l2] (.ref a :: st) (yemb t) Q ↔ G d 18 33 [l0, l1, l2] (.ref 36 :: st) (yemb t) Q := gs_getf (c := 2) (j := 4) (q := .c 36) f_18_32 ho rfl
theorem f_18_33 : ft 18 33 = some (86, .iload_n 2, []) := rfl
theorem s_18_33 {d : Nat} {σ : xS} {st : List Value} {Q : xR → xS → Prop} {l0 l1 : Option Value} {x : Int32} : G d 18 33 [l0, l1, some (.int x)] st σ Q ↔ G d 18 34 [l0, l1, some (.int x)] (.int x :: st) σ Q := gs_go f_18_33 rfl
theorem f_18_34 : ft 18 34 = some (87, .iconst 1, []) := rfl
theorem s_18_34 {d : Nat} {σ : xS} {st : List Value} {Q : xR → xS → Prop} {l0 l1 l2 : Option Value} : G d 18 34 [l0, l1, l2] st σ Q ↔ G d 18 35 [l0, l1, l2] (.int (1) :: st) σ Q := gs_go f_18_34 rfl
theorem f_18_35 : ft 18 35 = some (88, .iadd, []) := rfl
theorem s_18_35 {d : Nat} {σ : xS} {st : List Value} {Q : xR → xS → Prop} {l0 l1 l2 : Option Value} {x y : Int32} : G d 18 35 [l0, l1, l2] (.int y :: .int x :: st) σ Q ↔ G d 18 36 [l0, l1, l2] (.int (x + y) :: st) σ Q := gs_go f_18_35 rfl
theorem f_18_36 : ft 18 36 = some (89, .iaload, []) := rfl
theorem s_18_36 {d : Nat} {t : yT} {st : List Value} {Q : xR → xS → Prop} {l0 l1 l2 : Option Value} {a : Nat} {x : Int32} (ha : yA 0 a) : G d 18 36 [l0, l1, l2] (.int x :: .ref a :: st) (yemb t) Q ↔ yix x (yn a) ∧ G d 18 37 [l0, l1, l2] (.int (t.A a x.toNatClampNeg) :: st) (yemb t) Q := gs_iald f_18_36 ha
theorem f_18_37 : ft 18 37 = some (90, .aload_n 0, []) := rfl
theorem s_18_37 {d : Nat} {σ : xS} {st : List Value} {Q : xR → xS → Prop} {l1 l2 : Option Value} {x : Nat} : G d 18 37 [some (.ref x), l1, l2] st σ Q ↔ G d 18 38 [some (.ref x), l1, l2] (.ref x :: st) σ Q := gs_go f_18_37 rfl
theorem f_18_38 : ft 18 38 = some (91, .getfield 15, [2, 4, 0, 273]) := rfl
theorem s_18_38 {d : Nat} {t : yT} {st : List Value} {Q : xR → xS → Prop} {l0 l1 l2 : Option Value} {a : Nat} (ho : yisO 2 a) : G d 18 38 [l0, l1, l2] (.ref a :: st) (yemb t) Q ↔ G d 18 39 [l0, l1, l2] (.ref 36 :: st) (yemb t) Q := gs_getf (c := 2) (j := 4) (q := .c 36) f_18_38 ho rfl
theorem f_18_39 : ft 18 39 = some (94, .iload_n 2, []) := rfl
theorem s_18_39 {d : Nat} {σ : xS} {st : List Value} {Q : xR → xS → Prop} {l0 l1 : Option Value} {x : Int32} : G d 18 39 [l0, l1, some (.int x)] st σ Q ↔ G d 18 40 [l0, l1, some (.int x)] (.int x :: st) σ Q := gs_go f_18_39 rfl
theorem f_18_40 : ft 18 40 = some (95, .iconst 2, []) := rfl
theorem s_18_40 {d : Nat} {σ : xS} {st : List Value} {Q : xR → xS → Prop} {l0 l1 l2 : Option Value} : G d 18 40 [l0, l1, l2] st σ Q ↔ G d 18 41 [l0, l1, l2] (.int (2) :: st) σ Q := gs_go f_18_40 rfl
theorem f_18_41 : ft 18 41 = some (96, .iadd, []) := rfl
theorem s_18_41 {d : Nat} {σ : xS} {st : List Value} {Q : xR → xS → Prop} {l0 l1 l2 : Option Value} {x y : Int32} : G d 18 41 [l0, l1, l2] (.int y :: .int x :: st) σ Q ↔ G d 18 42 [l0, l1, l2] (.int (x + y) :: st) σ Q := gs_go f_18_41 rfl
theorem f_18_42 : ft 18 42 = some (97, .iaload, []) := rfl
theorem s_18_42 {d : Nat} {t : yT} {st : List Value} {Q : xR → xS → Prop} {l0 l1 l2 : Option Value} {a : Nat} {x : Int32} (ha : yA 0 a) : G d 18 42 [l0, l1, l2] (.int x :: .ref a :: st) (yemb t) Q ↔ yix x (yn a) ∧ G d 18 43 [l0, l1, l2] (.int (t.A a x.toNatClampNeg) :: st) (yemb t) Q := gs_iald f_18_42 ha
theorem f_18_43 : ft 18 43 = some (98, .aload_n 0, []) := rfl
theorem s_18_43 {d : Nat} {σ : xS} {st : List Value} {Q : xR → xS → Prop} {l1 l2 : Option Value} {x : Nat} : G d 18 43 [some (.ref x), l1, l2] st σ Q ↔ G d 18 44 [some (.ref x), l1, l2] (.ref x :: st) σ Q := gs_go f_18_43 rfl
theorem f_18_44 : ft 18 44 = some (99, .getfield 15, [2, 4, 0, 273]) := rfl
theorem s_18_44 {d : Nat} {t : yT} {st : List Value} {Q : xR → xS → Prop} {l0 l1 l2 : Option Value} {a : Nat} (ho : yisO 2 a) : G d 18 44 [l0, l1, l2] (.ref a :: st) (yemb t) Q ↔ G d 18 45 [l0, l1, l2] (.ref 36 :: st) (yemb t) Q := gs_getf (c := 2) (j := 4) (q := .c 36) f_18_44 ho rfl
theorem f_18_45 : ft 18 45 = some (102, .iload_n 2, []) := rfl
theorem s_18_45 {d : Nat} {σ : xS} {st : List Value} {Q : xR → xS → Prop} {l0 l1 : Option Value} {x : Int32} : G d 18 45 [l0, l1, some (.int x)] st σ Q ↔ G d 18 46 [l0, l1, some (.int x)] (.int x :: st) σ Q := gs_go f_18_45 rfl
theorem f_18_46 : ft 18 46 = some (103, .iconst 3, []) := rfl
theorem s_18_46 {d : Nat} {σ : xS} {st : List Value} {Q : xR → xS → Prop} {l0 l1 l2 : Option Value} : G d 18 46 [l0, l1, l2] st σ Q ↔ G d 18 47 [l0, l1, l2] (.int (3) :: st) σ Q := gs_go f_18_46 rfl
theorem f_18_47 : ft 18 47 = some (104, .iadd, []) := rfl
theorem s_18_47 {d : Nat} {σ : xS} {st : List Value} {Q : xR → xS → Prop} {l0 l1 l2 : Option Value} {x y : Int32} : G d 18 47 [l0, l1, l2] (.int y :: .int x :: st) σ Q ↔ G d 18 48 [l0, l1, l2] (.int (x + y) :: st) σ Q := gs_go f_18_47 rfl
theorem f_18_48 : ft 18 48 = some (105, .iaload, []) := rfl
theorem s_18_48 {d : Nat} {t : yT} {st : List Value} {Q : xR → xS → Prop} {l0 l1 l2 : Option Value} {a : Nat} {x : Int32} (ha : yA 0 a) : G d 18 48 [l0, l1, l2] (.int x :: .ref a :: st) (yemb t) Q ↔ yix x (yn a) ∧ G d 18 49 [l0, l1, l2] (.int (t.A a x.toNatClampNeg) :: st) (yemb t) Q := gs_iald f_18_48 ha
theorem f_18_49 : ft 18 49 = some (106, .aload_n 0, []) := rfl
theorem s_18_49 {d : Nat} {σ : xS} {st : List Value} {Q : xR → xS → Prop} {l1 l2 : Option Value} {x : Nat} : G d 18 49 [some (.ref x), l1, l2] st σ Q ↔ G d 18 50 [some (.ref x), l1, l2] (.ref x :: st) σ Q := gs_go f_18_49 rfl
theorem f_18_50 : ft 18 50 = some (107, .getfield 15, [2, 4, 0, 273]) := rfl
theorem s_18_50 {d : Nat} {t : yT} {st : List Value} {Q : xR → xS → Prop} {l0 l1 l2 : Option Value} {a : Nat} (ho : yisO 2 a) : G d 18 50 [l0, l1, l2] (.ref a :: st) (yemb t) Q ↔ G d 18 51 [l0, l1, l2] (.ref 36 :: st) (yemb t) Q := gs_getf (c := 2) (j := 4) (q := .c 36) f_18_50 ho rfl
theorem f_18_51 : ft 18 51 = some (110, .iload_n 2, []) := rfl
theorem s_18_51 {d : Nat} {σ : xS} {st : List Value} {Q : xR → xS → Prop} {l0 l1 : Option Value} {x : Int32} : G d 18 51 [l0, l1, some (.int x)] st σ Q ↔ G d 18 52 [l0, l1, some (.int x)] (.int x :: st) σ Q := gs_go f_18_51 rfl
theorem f_18_52 : ft 18 52 = some (111, .iconst 4, []) := rfl
theorem s_18_52 {d : Nat} {σ : xS} {st : List Value} {Q : xR → xS → Prop} {l0 l1 l2 : Option Value} : G d 18 52 [l0, l1, l2] st σ Q ↔ G d 18 53 [l0, l1, l2] (.int (4) :: st) σ Q := gs_go f_18_52 rfl
theorem f_18_53 : ft 18 53 = some (112, .iadd, []) := rfl
theorem s_18_53 {d : Nat} {σ : xS} {st : List Value} {Q : xR → xS → Prop} {l0 l1 l2 : Option Value} {x y : Int32} : G d 18 53 [l0, l1, l2] (.int y :: .int x :: st) σ Q ↔ G d 18 54 [l0, l1, l2] (.int (x + y) :: st) σ Q := gs_go f_18_53 rfl
theorem f_18_54 : ft 18 54 = some (113, .iaload, []) := rfl
theorem s_18_54 {d : Nat} {t : yT} {st : List Value} {Q : xR → xS → Prop} {l0 l1 l2 : Option Value} {a : Nat} {x : Int32} (ha : yA 0 a) : G d 18 54 [l0, l1, l2] (.int x :: .ref a :: st) (yemb t) Q ↔ yix x (yn a) ∧ G d 18 55 [l0, l1, l2] (.int (t.A a x.toNatClampNeg) :: st) (yemb t) Q := gs_iald f_18_54 ha
theorem f_18_55 : ft 18 55 = some (114, .invokestatic 118, [121, 3, 4, 970]) := rfl
theorem s_18_55 {d : Nat} {σ : xS} {st : List Value} {Q : xR → xS → Prop} {l0 l1 l2 : Option Value} {a0 : Int32} {a1 : Int32} {a2 : Int32} : G (d + 1) 18 55 [l0, l1, l2] (.int a2 :: .int a1 :: .int a0 :: st) σ Q ↔ xcat st ≤ 8 ∧ Cl d 121 [.int a0, .int a1, .int a2] σ (Gk (d + 1) 18 55 [l0, l1, l2] st Q) := gs_call f_18_55 ((xinv_call (i := 55) (n := 970) (ls := [l0, l1, l2]) (kind := 4) (σ := σ) (by decide)).trans (xcall_st [.int a2, .int a1, .int a0] rfl (by decide) (show (3 : Nat) ≤ 3 by decide)))
theorem f_18_56 : ft 18 56 = some (117, .invokevirtual 122, [39, 4, 0, 973]) := rfl
theorem s_18_56 {d : Nat} {t : yT} {st : List Value} {Q : xR → xS → Prop} {l0 l1 l2 : Option Value} {a0 : Nat} {a1 : Int32} {a2 : Int32} {a3 : Int32} (ho : yisO 4 a0) : G (d + 1) 18 56 [l0, l1, l2] (.int a3 :: .int a2 :: .int a1 :: .ref a0 :: st) (yemb t) Q ↔ xcat st ≤ 8 ∧ Cl d 39 [.ref a0, .int a1, .int a2, .int a3] (yemb t) (Gk (d + 1) 18 56 [l0, l1, l2] st Q) := gs_call f_18_56 ((xinv_call (i := 56) (n := 973) (ls := [l0, l1, l2]) (kind := 0) (σ := yemb t) (by decide)).trans (xcall_vi [.int a3, .int a2, .int a1, .ref a0] rfl rfl (show (4 : Nat) ≤ 6 by decide) rfl ho))
theorem f_18_57 : ft 18 57 = some (120, .pop, []) := rfl
theorem s_18_57 {d : Nat} {σ : xS} {st : List Value} {Q : xR → xS → Prop} {l0 l1 l2 : Option Value} {x : Nat} : G d 18 57 [l0, l1, l2] (.ref x :: st) σ Q ↔ G d 18 58 [l0, l1, l2] st σ Q := gs_go f_18_57 rfl
theorem s_18_57i {d : Nat} {σ : xS} {st : List Value} {Q : xR → xS → Prop} {l0 l1 l2 : Option Value} {x : Int32} : G d 18 57 [l0, l1, l2] (.int x :: st) σ Q ↔ G d 18 58 [l0, l1, l2] st σ Q := gs_go f_18_57 rfl
theorem f_18_58 : ft 18 58 = some (121, .goto 64, [90]) := rfl
theorem s_18_58 {d : Nat} {σ : xS} {st : List Value} {Q : xR → xS → Prop} {l0 l1 l2 : Option Value} : G d 18 58 [l0, l1, l2] st σ Q ↔ G d 18 90 [l0, l1, l2] st σ Q := gs_go f_18_58 rfl
theorem f_18_59 : ft 18 59 = some (124, .aload_n 0, []) := rfl
theorem s_18_59 {d : Nat} {σ : xS} {st : List Value} {Q : xR → xS → Prop} {l1 l2 : Option Value} {x : Nat} : G d 18 59 [some (.ref x), l1, l2] st σ Q ↔ G d 18 60 [some (.ref x), l1, l2] (.ref x :: st) σ Q := gs_go f_18_59 rfl
theorem f_18_60 : ft 18 60 = some (125, .getfield 35, [2, 1, 0, 270]) := rfl
theorem s_18_60 {d : Nat} {t : yT} {st : List Value} {Q : xR → xS → Prop} {l0 l1 l2 : Option Value} {a : Nat} (ho : yisO 2 a) : G d 18 60 [l0, l1, l2] (.ref a :: st) (yemb t) Q ↔ G d 18 61 [l0, l1, l2] (.ref 7 :: st) (yemb t) Q := gs_getf (c := 2) (j := 1) (q := .c 7) f_18_60 ho rfl
theorem f_18_61 : ft 18 61 = some (128, .aload_n 0, []) := rfl
theorem s_18_61 {d : Nat} {σ : xS} {st : List Value} {Q : xR → xS → Prop} {l1 l2 : Option Value} {x : Nat} : G d 18 61 [some (.ref x), l1, l2] st σ Q ↔ G d 18 62 [some (.ref x), l1, l2] (.ref x :: st) σ Q := gs_go f_18_61 rfl
theorem f_18_62 : ft 18 62 = some (129, .getfield 15, [2, 4, 0, 273]) := rfl
theorem s_18_62 {d : Nat} {t : yT} {st : List Value} {Q : xR → xS → Prop} {l0 l1 l2 : Option Value} {a : Nat} (ho : yisO 2 a) : G d 18 62 [l0, l1, l2] (.ref a :: st) (yemb t) Q ↔ G d 18 63 [l0, l1, l2] (.ref 36 :: st) (yemb t) Q := gs_getf (c := 2) (j := 4) (q := .c 36) f_18_62 ho rfl
theorem f_18_63 : ft 18 63 = some (132, .iload_n 2, []) := rfl
theorem s_18_63 {d : Nat} {σ : xS} {st : List Value} {Q : xR → xS → Prop} {l0 l1 : Option Value} {x : Int32} : G d 18 63 [l0, l1, some (.int x)] st σ Q ↔ G d 18 64 [l0, l1, some (.int x)] (.int x :: st) σ Q := gs_go f_18_63 rfl
theorem f_18_64 : ft 18 64 = some (133, .iaload, []) := rfl
theorem s_18_64 {d : Nat} {t : yT} {st : List Value} {Q : xR → xS → Prop} {l0 l1 l2 : Option Value} {a : Nat} {x : Int32} (ha : yA 0 a) : G d 18 64 [l0, l1, l2] (.int x :: .ref a :: st) (yemb t) Q ↔ yix x (yn a) ∧ G d 18 65 [l0, l1, l2] (.int (t.A a x.toNatClampNeg) :: st) (yemb t) Q := gs_iald f_18_64 ha
theorem f_18_65 : ft 18 65 = some (134, .invokevirtual 127, [40, 2, 0, 974]) := rfl
theorem s_18_65 {d : Nat} {t : yT} {st : List Value} {Q : xR → xS → Prop} {l0 l1 l2 : Option Value} {a0 : Nat} {a1 : Int32} (ho : yisO 4 a0) : G (d + 1) 18 65 [l0, l1, l2] (.int a1 :: .ref a0 :: st) (yemb t) Q ↔ xcat st ≤ 8 ∧ Cl d 40 [.ref a0, .int a1] (yemb t) (Gk (d + 1) 18 65 [l0, l1, l2] st Q) := gs_call f_18_65 ((xinv_call (i := 65) (n := 974) (ls := [l0, l1, l2]) (kind := 0) (σ := yemb t) (by decide)).trans (xcall_vi [.int a1, .ref a0] rfl rfl (show (2 : Nat) ≤ 3 by decide) rfl ho))
theorem f_18_66 : ft 18 66 = some (137, .pop, []) := rfl
theorem s_18_66 {d : Nat} {σ : xS} {st : List Value} {Q : xR → xS → Prop} {l0 l1 l2 : Option Value} {x : Nat} : G d 18 66 [l0, l1, l2] (.ref x :: st) σ Q ↔ G d 18 67 [l0, l1, l2] st σ Q := gs_go f_18_66 rfl
theorem s_18_66i {d : Nat} {σ : xS} {st : List Value} {Q : xR → xS → Prop} {l0 l1 l2 : Option Value} {x : Int32} : G d 18 66 [l0, l1, l2] (.int x :: st) σ Q ↔ G d 18 67 [l0, l1, l2] st σ Q := gs_go f_18_66 rfl
theorem f_18_67 : ft 18 67 = some (138, .goto 47, [90]) := rfl
theorem s_18_67 {d : Nat} {σ : xS} {st : List Value} {Q : xR → xS → Prop} {l0 l1 l2 : Option Value} : G d 18 67 [l0, l1, l2] st σ Q ↔ G d 18 90 [l0, l1, l2] st σ Q := gs_go f_18_67 rfl
theorem f_18_68 : ft 18 68 = some (141, .aload_n 0, []) := rfl
theorem s_18_68 {d : Nat} {σ : xS} {st : List Value} {Q : xR → xS → Prop} {l1 l2 : Option Value} {x : Nat} : G d 18 68 [some (.ref x), l1, l2] st σ Q ↔ G d 18 69 [some (.ref x), l1, l2] (.ref x :: st) σ Q := gs_go f_18_68 rfl
theorem f_18_69 : ft 18 69 = some (142, .getfield 35, [2, 1, 0, 270]) := rfl
theorem s_18_69 {d : Nat} {t : yT} {st : List Value} {Q : xR → xS → Prop} {l0 l1 l2 : Option Value} {a : Nat} (ho : yisO 2 a) : G d 18 69 [l0, l1, l2] (.ref a :: st) (yemb t) Q ↔ G d 18 70 [l0, l1, l2] (.ref 7 :: st) (yemb t) Q := gs_getf (c := 2) (j := 1) (q := .c 7) f_18_69 ho rfl
theorem f_18_70 : ft 18 70 = some (145, .aload_n 0, []) := rfl
theorem s_18_70 {d : Nat} {σ : xS} {st : List Value} {Q : xR → xS → Prop} {l1 l2 : Option Value} {x : Nat} : G d 18 70 [some (.ref x), l1, l2] st σ Q ↔ G d 18 71 [some (.ref x), l1, l2] (.ref x :: st) σ Q := gs_go f_18_70 rfl
theorem f_18_71 : ft 18 71 = some (146, .getfield 15, [2, 4, 0, 273]) := rfl
theorem s_18_71 {d : Nat} {t : yT} {st : List Value} {Q : xR → xS → Prop} {l0 l1 l2 : Option Value} {a : Nat} (ho : yisO 2 a) : G d 18 71 [l0, l1, l2] (.ref a :: st) (yemb t) Q ↔ G d 18 72 [l0, l1, l2] (.ref 36 :: st) (yemb t) Q := gs_getf (c := 2) (j := 4) (q := .c 36) f_18_71 ho rfl
theorem f_18_72 : ft 18 72 = some (149, .iload_n 2, []) := rfl
theorem s_18_72 {d : Nat} {σ : xS} {st : List Value} {Q : xR → xS → Prop} {l0 l1 : Option Value} {x : Int32} : G d 18 72 [l0, l1, some (.int x)] st σ Q ↔ G d 18 73 [l0, l1, some (.int x)] (.int x :: st) σ Q := gs_go f_18_72 rfl
theorem f_18_73 : ft 18 73 = some (150, .iaload, []) := rfl
theorem s_18_73 {d : Nat} {t : yT} {st : List Value} {Q : xR → xS → Prop} {l0 l1 l2 : Option Value} {a : Nat} {x : Int32} (ha : yA 0 a) : G d 18 73 [l0, l1, l2] (.int x :: .ref a :: st) (yemb t) Q ↔ yix x (yn a) ∧ G d 18 74 [l0, l1, l2] (.int (t.A a x.toNatClampNeg) :: st) (yemb t) Q := gs_iald f_18_73 ha
theorem f_18_74 : ft 18 74 = some (151, .putfield 130, [4, 11, 1, 168]) := rfl
theorem s_18_74 {d : Nat} {t : yT} {st : List Value} {Q : xR → xS → Prop} {l0 l1 l2 : Option Value} {a : Nat} {x : Int32} (ho : yisO 4 a) : G d 18 74 [l0, l1, l2] (.int x :: .ref a :: st) (yemb t) Q ↔ G d 18 75 [l0, l1, l2] st (yemb (t.s1 a 11 x)) Q := gs_putI (c := 4) (j := 11) f_18_74 (fun _ => rfl) rfl rfl ho
theorem f_18_75 : ft 18 75 = some (154, .goto 31, [90]) := rfl
theorem s_18_75 {d : Nat} {σ : xS} {st : List Value} {Q : xR → xS → Prop} {l0 l1 l2 : Option Value} : G d 18 75 [l0, l1, l2] st σ Q ↔ G d 18 90 [l0, l1, l2] st σ Q := gs_go f_18_75 rfl
theorem f_18_76 : ft 18 76 = some (157, .aload_n 0, []) := rfl
theorem s_18_76 {d : Nat} {σ : xS} {st : List Value} {Q : xR → xS → Prop} {l1 l2 : Option Value} {x : Nat} : G d 18 76 [some (.ref x), l1, l2] st σ Q ↔ G d 18 77 [some (.ref x), l1, l2] (.ref x :: st) σ Q := gs_go f_18_76 rfl
theorem f_18_77 : ft 18 77 = some (158, .getfield 35, [2, 1, 0, 270]) := rfl
theorem s_18_77 {d : Nat} {t : yT} {st : List Value} {Q : xR → xS → Prop} {l0 l1 l2 : Option Value} {a : Nat} (ho : yisO 2 a) : G d 18 77 [l0, l1, l2] (.ref a :: st) (yemb t) Q ↔ G d 18 78 [l0, l1, l2] (.ref 7 :: st) (yemb t) Q := gs_getf (c := 2) (j := 1) (q := .c 7) f_18_77 ho rfl
theorem f_18_78 : ft 18 78 = some (161, .aload_n 0, []) := rfl
theorem s_18_78 {d : Nat} {σ : xS} {st : List Value} {Q : xR → xS → Prop} {l1 l2 : Option Value} {x : Nat} : G d 18 78 [some (.ref x), l1, l2] st σ Q ↔ G d 18 79 [some (.ref x), l1, l2] (.ref x :: st) σ Q := gs_go f_18_78 rfl
theorem f_18_79 : ft 18 79 = some (162, .getfield 39, [2, 2, 0, 271]) := rfl
theorem s_18_79 {d : Nat} {t : yT} {st : List Value} {Q : xR → xS → Prop} {l0 l1 l2 : Option Value} {a : Nat} (ho : yisO 2 a) : G d 18 79 [l0, l1, l2] (.ref a :: st) (yemb t) Q ↔ G d 18 80 [l0, l1, l2] (.ref 3 :: st) (yemb t) Q := gs_getf (c := 2) (j := 2) (q := .c 3) f_18_79 ho rfl
theorem f_18_80 : ft 18 80 = some (165, .invokevirtual 133, [52, 2, 0, 978]) := rfl
theorem s_18_80 {d : Nat} {t : yT} {st : List Value} {Q : xR → xS → Prop} {l0 l1 l2 : Option Value} {a0 : Nat} {a1 : Nat} (ho : yisO 4 a0) : G (d + 1) 18 80 [l0, l1, l2] (.ref a1 :: .ref a0 :: st) (yemb t) Q ↔ xcat st ≤ 8 ∧ Cl d 52 [.ref a0, .ref a1] (yemb t) (Gk (d + 1) 18 80 [l0, l1, l2] st Q) := gs_call f_18_80 ((xinv_call (i := 80) (n := 978) (ls := [l0, l1, l2]) (kind := 0) (σ := yemb t) (by decide)).trans (xcall_vi [.ref a1, .ref a0] rfl rfl (show (2 : Nat) ≤ 2 by decide) rfl ho))
theorem f_18_81 : ft 18 81 = some (168, .goto 17, [90]) := rfl
theorem s_18_81 {d : Nat} {σ : xS} {st : List Value} {Q : xR → xS → Prop} {l0 l1 l2 : Option Value} : G d 18 81 [l0, l1, l2] st σ Q ↔ G d 18 90 [l0, l1, l2] st σ Q := gs_go f_18_81 rfl
theorem f_18_82 : ft 18 82 = some (171, .aload_n 0, []) := rfl
theorem s_18_82 {d : Nat} {σ : xS} {st : List Value} {Q : xR → xS → Prop} {l1 l2 : Option Value} {x : Nat} : G d 18 82 [some (.ref x), l1, l2] st σ Q ↔ G d 18 83 [some (.ref x), l1, l2] (.ref x :: st) σ Q := gs_go f_18_82 rfl
theorem f_18_83 : ft 18 83 = some (172, .getfield 35, [2, 1, 0, 270]) := rfl
theorem s_18_83 {d : Nat} {t : yT} {st : List Value} {Q : xR → xS → Prop} {l0 l1 l2 : Option Value} {a : Nat} (ho : yisO 2 a) : G d 18 83 [l0, l1, l2] (.ref a :: st) (yemb t) Q ↔ G d 18 84 [l0, l1, l2] (.ref 7 :: st) (yemb t) Q := gs_getf (c := 2) (j := 1) (q := .c 7) f_18_83 ho rfl
theorem f_18_84 : ft 18 84 = some (175, .aload_n 0, []) := rfl
theorem s_18_84 {d : Nat} {σ : xS} {st : List Value} {Q : xR → xS → Prop} {l1 l2 : Option Value} {x : Nat} : G d 18 84 [some (.ref x), l1, l2] st σ Q ↔ G d 18 85 [some (.ref x), l1, l2] (.ref x :: st) σ Q := gs_go f_18_84 rfl
theorem f_18_85 : ft 18 85 = some (176, .getfield 15, [2, 4, 0, 273]) := rfl
theorem s_18_85 {d : Nat} {t : yT} {st : List Value} {Q : xR → xS → Prop} {l0 l1 l2 : Option Value} {a : Nat} (ho : yisO 2 a) : G d 18 85 [l0, l1, l2] (.ref a :: st) (yemb t) Q ↔ G d 18 86 [l0, l1, l2] (.ref 36 :: st) (yemb t) Q := gs_getf (c := 2) (j := 4) (q := .c 36) f_18_85 ho rfl
theorem f_18_86 : ft 18 86 = some (179, .iload_n 2, []) := rfl
theorem s_18_86 {d : Nat} {σ : xS} {st : List Value} {Q : xR → xS → Prop} {l0 l1 : Option Value} {x : Int32} : G d 18 86 [l0, l1, some (.int x)] st σ Q ↔ G d 18 87 [l0, l1, some (.int x)] (.int x :: st) σ Q := gs_go f_18_86 rfl
theorem f_18_87 : ft 18 87 = some (180, .iaload, []) := rfl
theorem s_18_87 {d : Nat} {t : yT} {st : List Value} {Q : xR → xS → Prop} {l0 l1 l2 : Option Value} {a : Nat} {x : Int32} (ha : yA 0 a) : G d 18 87 [l0, l1, l2] (.int x :: .ref a :: st) (yemb t) Q ↔ yix x (yn a) ∧ G d 18 88 [l0, l1, l2] (.int (t.A a x.toNatClampNeg) :: st) (yemb t) Q := gs_iald f_18_87 ha
theorem f_18_88 : ft 18 88 = some (181, .iconst 1, []) := rfl
theorem s_18_88 {d : Nat} {σ : xS} {st : List Value} {Q : xR → xS → Prop} {l0 l1 l2 : Option Value} : G d 18 88 [l0, l1, l2] st σ Q ↔ G d 18 89 [l0, l1, l2] (.int (1) :: st) σ Q := gs_go f_18_88 rfl
theorem f_18_89 : ft 18 89 = some (182, .invokevirtual 137, [35, 3, 0, 1049]) := rfl
theorem s_18_89 {d : Nat} {t : yT} {st : List Value} {Q : xR → xS → Prop} {l0 l1 l2 : Option Value} {a0 : Nat} {a1 : Int32} {a2 : Int32} (ho : yisO 4 a0) : G (d + 1) 18 89 [l0, l1, l2] (.int a2 :: .int a1 :: .ref a0 :: st) (yemb t) Q ↔ xcat st ≤ 8 ∧ Cl d 35 [.ref a0, .int a1, .int a2] (yemb t) (Gk (d + 1) 18 89 [l0, l1, l2] st Q) := gs_call f_18_89 ((xinv_call (i := 89) (n := 1049) (ls := [l0, l1, l2]) (kind := 0) (σ := yemb t) (by decide)).trans (xcall_vi [.int a2, .int a1, .ref a0] rfl rfl (show (3 : Nat) ≤ 3 by decide) rfl ho))
theorem f_18_90 : ft 18 90 = some (185, .aload_n 0, []) := rfl
theorem s_18_90 {d : Nat} {σ : xS} {st : List Value} {Q : xR → xS → Prop} {l1 l2 : Option Value} {x : Nat} : G d 18 90 [some (.ref x), l1, l2] st σ Q ↔ G d 18 91 [some (.ref x), l1, l2] (.ref x :: st) σ Q := gs_go f_18_90 rfl
theorem f_18_91 : ft 18 91 = some (186, .dup, []) := rfl
theorem s_18_91 {d : Nat} {σ : xS} {st : List Value} {Q : xR → xS → Prop} {l0 l1 l2 : Option Value} {x : Nat} : G d 18 91 [l0, l1, l2] (.ref x :: st) σ Q ↔ G d 18 92 [l0, l1, l2] (.ref x :: .ref x :: st) σ Q := gs_go f_18_91 rfl
theorem s_18_91i {d : Nat} {σ : xS} {st : List Value} {Q : xR → xS → Prop} {l0 l1 l2 : Option Value} {x : Int32} : G d 18 91 [l0, l1, l2] (.int x :: st) σ Q ↔ G d 18 92 [l0, l1, l2] (.int x :: .int x :: st) σ Q := gs_go f_18_91 rfl
theorem f_18_92 : ft 18 92 = some (187, .getfield 25, [2, 7, 0, 276]) := rfl
theorem s_18_92 {d : Nat} {t : yT} {st : List Value} {Q : xR → xS → Prop} {l0 l1 l2 : Option Value} {a : Nat} (ho : yisO 2 a) : G d 18 92 [l0, l1, l2] (.ref a :: st) (yemb t) Q ↔ G d 18 93 [l0, l1, l2] (.int (t.A a 7) :: st) (yemb t) Q := gs_getf (c := 2) (j := 7) (q := .i) f_18_92 ho rfl
theorem f_18_93 : ft 18 93 = some (190, .iconst 1, []) := rfl
theorem s_18_93 {d : Nat} {σ : xS} {st : List Value} {Q : xR → xS → Prop} {l0 l1 l2 : Option Value} : G d 18 93 [l0, l1, l2] st σ Q ↔ G d 18 94 [l0, l1, l2] (.int (1) :: st) σ Q := gs_go f_18_93 rfl
theorem f_18_94 : ft 18 94 = some (191, .iadd, []) := rfl
theorem s_18_94 {d : Nat} {σ : xS} {st : List Value} {Q : xR → xS → Prop} {l0 l1 l2 : Option Value} {x y : Int32} : G d 18 94 [l0, l1, l2] (.int y :: .int x :: st) σ Q ↔ G d 18 95 [l0, l1, l2] (.int (x + y) :: st) σ Q := gs_go f_18_94 rfl
theorem f_18_95 : ft 18 95 = some (192, .putfield 25, [2, 7, 0, 276]) := rfl
theorem s_18_95 {d : Nat} {t : yT} {st : List Value} {Q : xR → xS → Prop} {l0 l1 l2 : Option Value} {a : Nat} {x : Int32} (ho : yisO 2 a) : G d 18 95 [l0, l1, l2] (.int x :: .ref a :: st) (yemb t) Q ↔ G d 18 96 [l0, l1, l2] st (yemb (t.s1 a 7 x)) Q := gs_putI (c := 2) (j := 7) f_18_95 (fun _ => rfl) rfl rfl ho
theorem f_18_96 : ft 18 96 = some (195, .iconst 1, []) := rfl
theorem s_18_96 {d : Nat} {σ : xS} {st : List Value} {Q : xR → xS → Prop} {l0 l1 l2 : Option Value} : G d 18 96 [l0, l1, l2] st σ Q ↔ G d 18 97 [l0, l1, l2] (.int (1) :: st) σ Q := gs_go f_18_96 rfl
theorem f_18_97 : ft 18 97 = some (196, .ireturn, []) := rfl
theorem s_18_97 {d : Nat} {σ : xS} {ls : xL} {Q : xR → xS → Prop} {x : Int32} : G d 18 97 ls [.int x] σ Q ↔ ybo x ∧ Q (.inl (some (.int x))) σ := gs_retb f_18_97 rfl
theorem f_19_0 : ft 19 0 = some (0, .iconst 5, []) := rfl
theorem s_19_0 {d : Nat} {σ : xS} {st : List Value} {Q : xR → xS → Prop} {l0 l1 l2 : Option Value} : G d 19 0 [l0, l1, l2] st σ Q ↔ G d 19 1 [l0, l1, l2] (.int (5) :: st) σ Q := gs_go f_19_0 rfl
theorem f_19_1 : ft 19 1 = some (1, .iload_n 1, []) := rfl
theorem s_19_1 {d : Nat} {σ : xS} {st : List Value} {Q : xR → xS → Prop} {l0 l2 : Option Value} {x : Int32} : G d 19 1 [l0, some (.int x), l2] st σ Q ↔ G d 19 2 [l0, some (.int x), l2] (.int x :: st) σ Q := gs_go f_19_1 rfl
theorem f_19_2 : ft 19 2 = some (2, .imul, []) := rfl
theorem s_19_2 {d : Nat} {σ : xS} {st : List Value} {Q : xR → xS → Prop} {l0 l1 l2 : Option Value} {x y : Int32} : G d 19 2 [l0, l1, l2] (.int y :: .int x :: st) σ Q ↔ G d 19 3 [l0, l1, l2] (.int (x * y) :: st) σ Q := gs_go f_19_2 rfl
theorem f_19_3 : ft 19 3 = some (3, .istore_n 2, []) := rfl
theorem s_19_3 {d : Nat} {σ : xS} {st : List Value} {Q : xR → xS → Prop} {l0 l1 l2 : Option Value} {x : Int32} : G d 19 3 [l0, l1, l2] (.int x :: st) σ Q ↔ G d 19 4 [l0, ykl l1, some (.int x)] st σ Q := by
  cases l1 with
  | none => exact gs_go f_19_3 rfl
  | some v => cases v <;> exact gs_go f_19_3 rfl
theorem f_19_4 : ft 19 4 = some (4, .aload_n 0, []) := rfl
theorem s_19_4 {d : Nat} {σ : xS} {st : List Value} {Q : xR → xS → Prop} {l1 l2 : Option Value} {x : Nat} : G d 19 4 [some (.ref x), l1, l2] st σ Q ↔ G d 19 5 [some (.ref x), l1, l2] (.ref x :: st) σ Q := gs_go f_19_4 rfl
theorem f_19_5 : ft 19 5 = some (5, .getfield 11, [2, 3, 0, 272]) := rfl
theorem s_19_5 {d : Nat} {t : yT} {st : List Value} {Q : xR → xS → Prop} {l0 l1 l2 : Option Value} {a : Nat} (ho : yisO 2 a) : G d 19 5 [l0, l1, l2] (.ref a :: st) (yemb t) Q ↔ G d 19 6 [l0, l1, l2] (.ref 35 :: st) (yemb t) Q := gs_getf (c := 2) (j := 3) (q := .c 35) f_19_5 ho rfl
theorem f_19_6 : ft 19 6 = some (8, .iload_n 1, []) := rfl
theorem s_19_6 {d : Nat} {σ : xS} {st : List Value} {Q : xR → xS → Prop} {l0 l2 : Option Value} {x : Int32} : G d 19 6 [l0, some (.int x), l2] st σ Q ↔ G d 19 7 [l0, some (.int x), l2] (.int x :: st) σ Q := gs_go f_19_6 rfl
theorem f_19_7 : ft 19 7 = some (9, .iaload, []) := rfl
theorem s_19_7 {d : Nat} {t : yT} {st : List Value} {Q : xR → xS → Prop} {l0 l1 l2 : Option Value} {a : Nat} {x : Int32} (ha : yA 0 a) : G d 19 7 [l0, l1, l2] (.int x :: .ref a :: st) (yemb t) Q ↔ yix x (yn a) ∧ G d 19 8 [l0, l1, l2] (.int (t.A a x.toNatClampNeg) :: st) (yemb t) Q := gs_iald f_19_7 ha
theorem f_19_8 : ft 19 8 = some (10, .tableswitch 120 0 4 #[34, 120, 80, 120, 98], [63, 9, 63, 41, 63, 51]) := rfl
theorem s_19_8_0 {d : Nat} {σ : xS} {st : List Value} {Q : xR → xS → Prop} {l0 l1 l2 : Option Value} : G d 19 8 [l0, l1, l2] (.int (0) :: st) σ Q ↔ G d 19 9 [l0, l1, l2] st σ Q := gs_go f_19_8 rfl
theorem s_19_8_1 {d : Nat} {σ : xS} {st : List Value} {Q : xR → xS → Prop} {l0 l1 l2 : Option Value} : G d 19 8 [l0, l1, l2] (.int (1) :: st) σ Q ↔ G d 19 63 [l0, l1, l2] st σ Q := gs_go f_19_8 rfl
theorem s_19_8_2 {d : Nat} {σ : xS} {st : List Value} {Q : xR → xS → Prop} {l0 l1 l2 : Option Value} : G d 19 8 [l0, l1, l2] (.int (2) :: st) σ Q ↔ G d 19 41 [l0, l1, l2] st σ Q := gs_go f_19_8 rfl
theorem s_19_8_3 {d : Nat} {σ : xS} {st : List Value} {Q : xR → xS → Prop} {l0 l1 l2 : Option Value} : G d 19 8 [l0, l1, l2] (.int (3) :: st) σ Q ↔ G d 19 63 [l0, l1, l2] st σ Q := gs_go f_19_8 rfl
theorem s_19_8_4 {d : Nat} {σ : xS} {st : List Value} {Q : xR → xS → Prop} {l0 l1 l2 : Option Value} : G d 19 8 [l0, l1, l2] (.int (4) :: st) σ Q ↔ G d 19 51 [l0, l1, l2] st σ Q := gs_go f_19_8 rfl
theorem s_19_8_d {d : Nat} {σ : xS} {st : List Value} {Q : xR → xS → Prop} {l0 l1 l2 : Option Value} {x : Int32} (h : x.toInt < 0 ∨ 4 < x.toInt) : G d 19 8 [l0, l1, l2] (.int x :: st) σ Q ↔ G d 19 63 [l0, l1, l2] st σ Q := gs_go f_19_8 (if_pos h)
theorem f_19_9 : ft 19 9 = some (44, .aload_n 0, []) := rfl
theorem s_19_9 {d : Nat} {σ : xS} {st : List Value} {Q : xR → xS → Prop} {l1 l2 : Option Value} {x : Nat} : G d 19 9 [some (.ref x), l1, l2] st σ Q ↔ G d 19 10 [some (.ref x), l1, l2] (.ref x :: st) σ Q := gs_go f_19_9 rfl
theorem f_19_10 : ft 19 10 = some (45, .getfield 35, [2, 1, 0, 270]) := rfl
theorem s_19_10 {d : Nat} {t : yT} {st : List Value} {Q : xR → xS → Prop} {l0 l1 l2 : Option Value} {a : Nat} (ho : yisO 2 a) : G d 19 10 [l0, l1, l2] (.ref a :: st) (yemb t) Q ↔ G d 19 11 [l0, l1, l2] (.ref 7 :: st) (yemb t) Q := gs_getf (c := 2) (j := 1) (q := .c 7) f_19_10 ho rfl
theorem f_19_11 : ft 19 11 = some (48, .aload_n 0, []) := rfl
theorem s_19_11 {d : Nat} {σ : xS} {st : List Value} {Q : xR → xS → Prop} {l1 l2 : Option Value} {x : Nat} : G d 19 11 [some (.ref x), l1, l2] st σ Q ↔ G d 19 12 [some (.ref x), l1, l2] (.ref x :: st) σ Q := gs_go f_19_11 rfl
theorem f_19_12 : ft 19 12 = some (49, .getfield 15, [2, 4, 0, 273]) := rfl
theorem s_19_12 {d : Nat} {t : yT} {st : List Value} {Q : xR → xS → Prop} {l0 l1 l2 : Option Value} {a : Nat} (ho : yisO 2 a) : G d 19 12 [l0, l1, l2] (.ref a :: st) (yemb t) Q ↔ G d 19 13 [l0, l1, l2] (.ref 36 :: st) (yemb t) Q := gs_getf (c := 2) (j := 4) (q := .c 36) f_19_12 ho rfl
theorem f_19_13 : ft 19 13 = some (52, .iload_n 2, []) := rfl
theorem s_19_13 {d : Nat} {σ : xS} {st : List Value} {Q : xR → xS → Prop} {l0 l1 : Option Value} {x : Int32} : G d 19 13 [l0, l1, some (.int x)] st σ Q ↔ G d 19 14 [l0, l1, some (.int x)] (.int x :: st) σ Q := gs_go f_19_13 rfl
theorem f_19_14 : ft 19 14 = some (53, .iaload, []) := rfl
theorem s_19_14 {d : Nat} {t : yT} {st : List Value} {Q : xR → xS → Prop} {l0 l1 l2 : Option Value} {a : Nat} {x : Int32} (ha : yA 0 a) : G d 19 14 [l0, l1, l2] (.int x :: .ref a :: st) (yemb t) Q ↔ yix x (yn a) ∧ G d 19 15 [l0, l1, l2] (.int (t.A a x.toNatClampNeg) :: st) (yemb t) Q := gs_iald f_19_14 ha
theorem f_19_15 : ft 19 15 = some (54, .aload_n 0, []) := rfl
theorem s_19_15 {d : Nat} {σ : xS} {st : List Value} {Q : xR → xS → Prop} {l1 l2 : Option Value} {x : Nat} : G d 19 15 [some (.ref x), l1, l2] st σ Q ↔ G d 19 16 [some (.ref x), l1, l2] (.ref x :: st) σ Q := gs_go f_19_15 rfl
theorem f_19_16 : ft 19 16 = some (55, .getfield 15, [2, 4, 0, 273]) := rfl
theorem s_19_16 {d : Nat} {t : yT} {st : List Value} {Q : xR → xS → Prop} {l0 l1 l2 : Option Value} {a : Nat} (ho : yisO 2 a) : G d 19 16 [l0, l1, l2] (.ref a :: st) (yemb t) Q ↔ G d 19 17 [l0, l1, l2] (.ref 36 :: st) (yemb t) Q := gs_getf (c := 2) (j := 4) (q := .c 36) f_19_16 ho rfl
theorem f_19_17 : ft 19 17 = some (58, .iload_n 2, []) := rfl
theorem s_19_17 {d : Nat} {σ : xS} {st : List Value} {Q : xR → xS → Prop} {l0 l1 : Option Value} {x : Int32} : G d 19 17 [l0, l1, some (.int x)] st σ Q ↔ G d 19 18 [l0, l1, some (.int x)] (.int x :: st) σ Q := gs_go f_19_17 rfl
theorem f_19_18 : ft 19 18 = some (59, .iconst 1, []) := rfl
theorem s_19_18 {d : Nat} {σ : xS} {st : List Value} {Q : xR → xS → Prop} {l0 l1 l2 : Option Value} : G d 19 18 [l0, l1, l2] st σ Q ↔ G d 19 19 [l0, l1, l2] (.int (1) :: st) σ Q := gs_go f_19_18 rfl
theorem f_19_19 : ft 19 19 = some (60, .iadd, []) := rfl
theorem s_19_19 {d : Nat} {σ : xS} {st : List Value} {Q : xR → xS → Prop} {l0 l1 l2 : Option Value} {x y : Int32} : G d 19 19 [l0, l1, l2] (.int y :: .int x :: st) σ Q ↔ G d 19 20 [l0, l1, l2] (.int (x + y) :: st) σ Q := gs_go f_19_19 rfl
theorem f_19_20 : ft 19 20 = some (61, .iaload, []) := rfl
theorem s_19_20 {d : Nat} {t : yT} {st : List Value} {Q : xR → xS → Prop} {l0 l1 l2 : Option Value} {a : Nat} {x : Int32} (ha : yA 0 a) : G d 19 20 [l0, l1, l2] (.int x :: .ref a :: st) (yemb t) Q ↔ yix x (yn a) ∧ G d 19 21 [l0, l1, l2] (.int (t.A a x.toNatClampNeg) :: st) (yemb t) Q := gs_iald f_19_20 ha
theorem f_19_21 : ft 19 21 = some (62, .aload_n 0, []) := rfl
theorem s_19_21 {d : Nat} {σ : xS} {st : List Value} {Q : xR → xS → Prop} {l1 l2 : Option Value} {x : Nat} : G d 19 21 [some (.ref x), l1, l2] st σ Q ↔ G d 19 22 [some (.ref x), l1, l2] (.ref x :: st) σ Q := gs_go f_19_21 rfl
theorem f_19_22 : ft 19 22 = some (63, .getfield 15, [2, 4, 0, 273]) := rfl
theorem s_19_22 {d : Nat} {t : yT} {st : List Value} {Q : xR → xS → Prop} {l0 l1 l2 : Option Value} {a : Nat} (ho : yisO 2 a) : G d 19 22 [l0, l1, l2] (.ref a :: st) (yemb t) Q ↔ G d 19 23 [l0, l1, l2] (.ref 36 :: st) (yemb t) Q := gs_getf (c := 2) (j := 4) (q := .c 36) f_19_22 ho rfl
theorem f_19_23 : ft 19 23 = some (66, .iload_n 2, []) := rfl
theorem s_19_23 {d : Nat} {σ : xS} {st : List Value} {Q : xR → xS → Prop} {l0 l1 : Option Value} {x : Int32} : G d 19 23 [l0, l1, some (.int x)] st σ Q ↔ G d 19 24 [l0, l1, some (.int x)] (.int x :: st) σ Q := gs_go f_19_23 rfl
theorem f_19_24 : ft 19 24 = some (67, .iconst 2, []) := rfl
theorem s_19_24 {d : Nat} {σ : xS} {st : List Value} {Q : xR → xS → Prop} {l0 l1 l2 : Option Value} : G d 19 24 [l0, l1, l2] st σ Q ↔ G d 19 25 [l0, l1, l2] (.int (2) :: st) σ Q := gs_go f_19_24 rfl
theorem f_19_25 : ft 19 25 = some (68, .iadd, []) := rfl
theorem s_19_25 {d : Nat} {σ : xS} {st : List Value} {Q : xR → xS → Prop} {l0 l1 l2 : Option Value} {x y : Int32} : G d 19 25 [l0, l1, l2] (.int y :: .int x :: st) σ Q ↔ G d 19 26 [l0, l1, l2] (.int (x + y) :: st) σ Q := gs_go f_19_25 rfl
theorem f_19_26 : ft 19 26 = some (69, .iaload, []) := rfl
theorem s_19_26 {d : Nat} {t : yT} {st : List Value} {Q : xR → xS → Prop} {l0 l1 l2 : Option Value} {a : Nat} {x : Int32} (ha : yA 0 a) : G d 19 26 [l0, l1, l2] (.int x :: .ref a :: st) (yemb t) Q ↔ yix x (yn a) ∧ G d 19 27 [l0, l1, l2] (.int (t.A a x.toNatClampNeg) :: st) (yemb t) Q := gs_iald f_19_26 ha
theorem f_19_27 : ft 19 27 = some (70, .aload_n 0, []) := rfl
theorem s_19_27 {d : Nat} {σ : xS} {st : List Value} {Q : xR → xS → Prop} {l1 l2 : Option Value} {x : Nat} : G d 19 27 [some (.ref x), l1, l2] st σ Q ↔ G d 19 28 [some (.ref x), l1, l2] (.ref x :: st) σ Q := gs_go f_19_27 rfl
theorem f_19_28 : ft 19 28 = some (71, .getfield 15, [2, 4, 0, 273]) := rfl
theorem s_19_28 {d : Nat} {t : yT} {st : List Value} {Q : xR → xS → Prop} {l0 l1 l2 : Option Value} {a : Nat} (ho : yisO 2 a) : G d 19 28 [l0, l1, l2] (.ref a :: st) (yemb t) Q ↔ G d 19 29 [l0, l1, l2] (.ref 36 :: st) (yemb t) Q := gs_getf (c := 2) (j := 4) (q := .c 36) f_19_28 ho rfl
theorem f_19_29 : ft 19 29 = some (74, .iload_n 2, []) := rfl
theorem s_19_29 {d : Nat} {σ : xS} {st : List Value} {Q : xR → xS → Prop} {l0 l1 : Option Value} {x : Int32} : G d 19 29 [l0, l1, some (.int x)] st σ Q ↔ G d 19 30 [l0, l1, some (.int x)] (.int x :: st) σ Q := gs_go f_19_29 rfl
theorem f_19_30 : ft 19 30 = some (75, .iconst 3, []) := rfl
theorem s_19_30 {d : Nat} {σ : xS} {st : List Value} {Q : xR → xS → Prop} {l0 l1 l2 : Option Value} : G d 19 30 [l0, l1, l2] st σ Q ↔ G d 19 31 [l0, l1, l2] (.int (3) :: st) σ Q := gs_go f_19_30 rfl
theorem f_19_31 : ft 19 31 = some (76, .iadd, []) := rfl
theorem s_19_31 {d : Nat} {σ : xS} {st : List Value} {Q : xR → xS → Prop} {l0 l1 l2 : Option Value} {x y : Int32} : G d 19 31 [l0, l1, l2] (.int y :: .int x :: st) σ Q ↔ G d 19 32 [l0, l1, l2] (.int (x + y) :: st) σ Q := gs_go f_19_31 rfl
theorem f_19_32 : ft 19 32 = some (77, .iaload, []) := rfl
theorem s_19_32 {d : Nat} {t : yT} {st : List Value} {Q : xR → xS → Prop} {l0 l1 l2 : Option Value} {a : Nat} {x : Int32} (ha : yA 0 a) : G d 19 32 [l0, l1, l2] (.int x :: .ref a :: st) (yemb t) Q ↔ yix x (yn a) ∧ G d 19 33 [l0, l1, l2] (.int (t.A a x.toNatClampNeg) :: st) (yemb t) Q := gs_iald f_19_32 ha
theorem f_19_33 : ft 19 33 = some (78, .aload_n 0, []) := rfl
theorem s_19_33 {d : Nat} {σ : xS} {st : List Value} {Q : xR → xS → Prop} {l1 l2 : Option Value} {x : Nat} : G d 19 33 [some (.ref x), l1, l2] st σ Q ↔ G d 19 34 [some (.ref x), l1, l2] (.ref x :: st) σ Q := gs_go f_19_33 rfl
theorem f_19_34 : ft 19 34 = some (79, .getfield 15, [2, 4, 0, 273]) := rfl
theorem s_19_34 {d : Nat} {t : yT} {st : List Value} {Q : xR → xS → Prop} {l0 l1 l2 : Option Value} {a : Nat} (ho : yisO 2 a) : G d 19 34 [l0, l1, l2] (.ref a :: st) (yemb t) Q ↔ G d 19 35 [l0, l1, l2] (.ref 36 :: st) (yemb t) Q := gs_getf (c := 2) (j := 4) (q := .c 36) f_19_34 ho rfl
theorem f_19_35 : ft 19 35 = some (82, .iload_n 2, []) := rfl
theorem s_19_35 {d : Nat} {σ : xS} {st : List Value} {Q : xR → xS → Prop} {l0 l1 : Option Value} {x : Int32} : G d 19 35 [l0, l1, some (.int x)] st σ Q ↔ G d 19 36 [l0, l1, some (.int x)] (.int x :: st) σ Q := gs_go f_19_35 rfl
theorem f_19_36 : ft 19 36 = some (83, .iconst 4, []) := rfl
theorem s_19_36 {d : Nat} {σ : xS} {st : List Value} {Q : xR → xS → Prop} {l0 l1 l2 : Option Value} : G d 19 36 [l0, l1, l2] st σ Q ↔ G d 19 37 [l0, l1, l2] (.int (4) :: st) σ Q := gs_go f_19_36 rfl
theorem f_19_37 : ft 19 37 = some (84, .iadd, []) := rfl
theorem s_19_37 {d : Nat} {σ : xS} {st : List Value} {Q : xR → xS → Prop} {l0 l1 l2 : Option Value} {x y : Int32} : G d 19 37 [l0, l1, l2] (.int y :: .int x :: st) σ Q ↔ G d 19 38 [l0, l1, l2] (.int (x + y) :: st) σ Q := gs_go f_19_37 rfl
theorem f_19_38 : ft 19 38 = some (85, .iaload, []) := rfl
theorem s_19_38 {d : Nat} {t : yT} {st : List Value} {Q : xR → xS → Prop} {l0 l1 l2 : Option Value} {a : Nat} {x : Int32} (ha : yA 0 a) : G d 19 38 [l0, l1, l2] (.int x :: .ref a :: st) (yemb t) Q ↔ yix x (yn a) ∧ G d 19 39 [l0, l1, l2] (.int (t.A a x.toNatClampNeg) :: st) (yemb t) Q := gs_iald f_19_38 ha
theorem f_19_39 : ft 19 39 = some (86, .invokevirtual 141, [38, 6, 0, 957]) := rfl
theorem s_19_39 {d : Nat} {t : yT} {st : List Value} {Q : xR → xS → Prop} {l0 l1 l2 : Option Value} {a0 : Nat} {a1 : Int32} {a2 : Int32} {a3 : Int32} {a4 : Int32} {a5 : Int32} (ho : yisO 4 a0) : G (d + 1) 19 39 [l0, l1, l2] (.int a5 :: .int a4 :: .int a3 :: .int a2 :: .int a1 :: .ref a0 :: st) (yemb t) Q ↔ xcat st ≤ 8 ∧ Cl d 38 [.ref a0, .int a1, .int a2, .int a3, .int a4, .int a5] (yemb t) (Gk (d + 1) 19 39 [l0, l1, l2] st Q) := gs_call f_19_39 ((xinv_call (i := 39) (n := 957) (ls := [l0, l1, l2]) (kind := 0) (σ := yemb t) (by decide)).trans (xcall_vi [.int a5, .int a4, .int a3, .int a2, .int a1, .ref a0] rfl rfl (show (6 : Nat) ≤ 6 by decide) rfl ho))
theorem f_19_40 : ft 19 40 = some (89, .ireturn, []) := rfl
theorem s_19_40 {d : Nat} {σ : xS} {ls : xL} {Q : xR → xS → Prop} {x : Int32} : G d 19 40 ls [.int x] σ Q ↔ Q (.inl (some (.int x))) σ := gs_reti f_19_40 rfl
theorem f_19_41 : ft 19 41 = some (90, .aload_n 0, []) := rfl
theorem s_19_41 {d : Nat} {σ : xS} {st : List Value} {Q : xR → xS → Prop} {l1 l2 : Option Value} {x : Nat} : G d 19 41 [some (.ref x), l1, l2] st σ Q ↔ G d 19 42 [some (.ref x), l1, l2] (.ref x :: st) σ Q := gs_go f_19_41 rfl
theorem f_19_42 : ft 19 42 = some (91, .getfield 15, [2, 4, 0, 273]) := rfl
theorem s_19_42 {d : Nat} {t : yT} {st : List Value} {Q : xR → xS → Prop} {l0 l1 l2 : Option Value} {a : Nat} (ho : yisO 2 a) : G d 19 42 [l0, l1, l2] (.ref a :: st) (yemb t) Q ↔ G d 19 43 [l0, l1, l2] (.ref 36 :: st) (yemb t) Q := gs_getf (c := 2) (j := 4) (q := .c 36) f_19_42 ho rfl
theorem f_19_43 : ft 19 43 = some (94, .iload_n 2, []) := rfl
theorem s_19_43 {d : Nat} {σ : xS} {st : List Value} {Q : xR → xS → Prop} {l0 l1 : Option Value} {x : Int32} : G d 19 43 [l0, l1, some (.int x)] st σ Q ↔ G d 19 44 [l0, l1, some (.int x)] (.int x :: st) σ Q := gs_go f_19_43 rfl
theorem f_19_44 : ft 19 44 = some (95, .iaload, []) := rfl
theorem s_19_44 {d : Nat} {t : yT} {st : List Value} {Q : xR → xS → Prop} {l0 l1 l2 : Option Value} {a : Nat} {x : Int32} (ha : yA 0 a) : G d 19 44 [l0, l1, l2] (.int x :: .ref a :: st) (yemb t) Q ↔ yix x (yn a) ∧ G d 19 45 [l0, l1, l2] (.int (t.A a x.toNatClampNeg) :: st) (yemb t) Q := gs_iald f_19_44 ha
theorem f_19_45 : ft 19 45 = some (96, .invokestatic 145, [119, 1, 4, 968]) := rfl
theorem s_19_45 {d : Nat} {σ : xS} {st : List Value} {Q : xR → xS → Prop} {l0 l1 l2 : Option Value} {a0 : Int32} : G (d + 1) 19 45 [l0, l1, l2] (.int a0 :: st) σ Q ↔ xcat st ≤ 8 ∧ Cl d 119 [.int a0] σ (Gk (d + 1) 19 45 [l0, l1, l2] st Q) := gs_call f_19_45 ((xinv_call (i := 45) (n := 968) (ls := [l0, l1, l2]) (kind := 4) (σ := σ) (by decide)).trans (xcall_st [.int a0] rfl (by decide) (show (1 : Nat) ≤ 1 by decide)))
theorem f_19_46 : ft 19 46 = some (99, .ifCond .eq 7, [49]) := rfl
theorem s_19_46 {d : Nat} {σ : xS} {st : List Value} {Q : xR → xS → Prop} {l0 l1 l2 : Option Value} {x : Int32} : G d 19 46 [l0, l1, l2] (.int x :: st) σ Q ↔ if x = 0 then G d 19 49 [l0, l1, l2] st σ Q else G d 19 47 [l0, l1, l2] st σ Q := gs_if f_19_46 rfl
theorem f_19_47 : ft 19 47 = some (102, .iconst 0, []) := rfl
theorem s_19_47 {d : Nat} {σ : xS} {st : List Value} {Q : xR → xS → Prop} {l0 l1 l2 : Option Value} : G d 19 47 [l0, l1, l2] st σ Q ↔ G d 19 48 [l0, l1, l2] (.int (0) :: st) σ Q := gs_go f_19_47 rfl
theorem f_19_48 : ft 19 48 = some (103, .goto 4, [50]) := rfl
theorem s_19_48 {d : Nat} {σ : xS} {st : List Value} {Q : xR → xS → Prop} {l0 l1 l2 : Option Value} : G d 19 48 [l0, l1, l2] st σ Q ↔ G d 19 50 [l0, l1, l2] st σ Q := gs_go f_19_48 rfl
theorem f_19_49 : ft 19 49 = some (106, .iconst 2, []) := rfl
theorem s_19_49 {d : Nat} {σ : xS} {st : List Value} {Q : xR → xS → Prop} {l0 l1 l2 : Option Value} : G d 19 49 [l0, l1, l2] st σ Q ↔ G d 19 50 [l0, l1, l2] (.int (2) :: st) σ Q := gs_go f_19_49 rfl
theorem f_19_50 : ft 19 50 = some (107, .ireturn, []) := rfl
theorem s_19_50 {d : Nat} {σ : xS} {ls : xL} {Q : xR → xS → Prop} {x : Int32} : G d 19 50 ls [.int x] σ Q ↔ Q (.inl (some (.int x))) σ := gs_reti f_19_50 rfl
theorem f_19_51 : ft 19 51 = some (108, .aload_n 0, []) := rfl
theorem s_19_51 {d : Nat} {σ : xS} {st : List Value} {Q : xR → xS → Prop} {l1 l2 : Option Value} {x : Nat} : G d 19 51 [some (.ref x), l1, l2] st σ Q ↔ G d 19 52 [some (.ref x), l1, l2] (.ref x :: st) σ Q := gs_go f_19_51 rfl
theorem f_19_52 : ft 19 52 = some (109, .getfield 35, [2, 1, 0, 270]) := rfl
theorem s_19_52 {d : Nat} {t : yT} {st : List Value} {Q : xR → xS → Prop} {l0 l1 l2 : Option Value} {a : Nat} (ho : yisO 2 a) : G d 19 52 [l0, l1, l2] (.ref a :: st) (yemb t) Q ↔ G d 19 53 [l0, l1, l2] (.ref 7 :: st) (yemb t) Q := gs_getf (c := 2) (j := 1) (q := .c 7) f_19_52 ho rfl
theorem f_19_53 : ft 19 53 = some (112, .aload_n 0, []) := rfl
theorem s_19_53 {d : Nat} {σ : xS} {st : List Value} {Q : xR → xS → Prop} {l1 l2 : Option Value} {x : Nat} : G d 19 53 [some (.ref x), l1, l2] st σ Q ↔ G d 19 54 [some (.ref x), l1, l2] (.ref x :: st) σ Q := gs_go f_19_53 rfl
theorem f_19_54 : ft 19 54 = some (113, .getfield 15, [2, 4, 0, 273]) := rfl
theorem s_19_54 {d : Nat} {t : yT} {st : List Value} {Q : xR → xS → Prop} {l0 l1 l2 : Option Value} {a : Nat} (ho : yisO 2 a) : G d 19 54 [l0, l1, l2] (.ref a :: st) (yemb t) Q ↔ G d 19 55 [l0, l1, l2] (.ref 36 :: st) (yemb t) Q := gs_getf (c := 2) (j := 4) (q := .c 36) f_19_54 ho rfl
theorem f_19_55 : ft 19 55 = some (116, .iload_n 2, []) := rfl
theorem s_19_55 {d : Nat} {σ : xS} {st : List Value} {Q : xR → xS → Prop} {l0 l1 : Option Value} {x : Int32} : G d 19 55 [l0, l1, some (.int x)] st σ Q ↔ G d 19 56 [l0, l1, some (.int x)] (.int x :: st) σ Q := gs_go f_19_55 rfl
theorem f_19_56 : ft 19 56 = some (117, .iaload, []) := rfl
theorem s_19_56 {d : Nat} {t : yT} {st : List Value} {Q : xR → xS → Prop} {l0 l1 l2 : Option Value} {a : Nat} {x : Int32} (ha : yA 0 a) : G d 19 56 [l0, l1, l2] (.int x :: .ref a :: st) (yemb t) Q ↔ yix x (yn a) ∧ G d 19 57 [l0, l1, l2] (.int (t.A a x.toNatClampNeg) :: st) (yemb t) Q := gs_iald f_19_56 ha
theorem f_19_57 : ft 19 57 = some (118, .invokevirtual 148, [32, 2, 0, 969]) := rfl
theorem s_19_57 {d : Nat} {t : yT} {st : List Value} {Q : xR → xS → Prop} {l0 l1 l2 : Option Value} {a0 : Nat} {a1 : Int32} (ho : yisO 4 a0) : G (d + 1) 19 57 [l0, l1, l2] (.int a1 :: .ref a0 :: st) (yemb t) Q ↔ xcat st ≤ 8 ∧ Cl d 32 [.ref a0, .int a1] (yemb t) (Gk (d + 1) 19 57 [l0, l1, l2] st Q) := gs_call f_19_57 ((xinv_call (i := 57) (n := 969) (ls := [l0, l1, l2]) (kind := 0) (σ := yemb t) (by decide)).trans (xcall_vi [.int a1, .ref a0] rfl rfl (show (2 : Nat) ≤ 2 by decide) rfl ho))
theorem f_19_58 : ft 19 58 = some (121, .ifCond .eq 7, [61]) := rfl
theorem s_19_58 {d : Nat} {σ : xS} {st : List Value} {Q : xR → xS → Prop} {l0 l1 l2 : Option Value} {x : Int32} : G d 19 58 [l0, l1, l2] (.int x :: st) σ Q ↔ if x = 0 then G d 19 61 [l0, l1, l2] st σ Q else G d 19 59 [l0, l1, l2] st σ Q := gs_if f_19_58 rfl
theorem f_19_59 : ft 19 59 = some (124, .iconst 0, []) := rfl
theorem s_19_59 {d : Nat} {σ : xS} {st : List Value} {Q : xR → xS → Prop} {l0 l1 l2 : Option Value} : G d 19 59 [l0, l1, l2] st σ Q ↔ G d 19 60 [l0, l1, l2] (.int (0) :: st) σ Q := gs_go f_19_59 rfl
theorem f_19_60 : ft 19 60 = some (125, .goto 4, [62]) := rfl
theorem s_19_60 {d : Nat} {σ : xS} {st : List Value} {Q : xR → xS → Prop} {l0 l1 l2 : Option Value} : G d 19 60 [l0, l1, l2] st σ Q ↔ G d 19 62 [l0, l1, l2] st σ Q := gs_go f_19_60 rfl
theorem f_19_61 : ft 19 61 = some (128, .iconst 3, []) := rfl
theorem s_19_61 {d : Nat} {σ : xS} {st : List Value} {Q : xR → xS → Prop} {l0 l1 l2 : Option Value} : G d 19 61 [l0, l1, l2] st σ Q ↔ G d 19 62 [l0, l1, l2] (.int (3) :: st) σ Q := gs_go f_19_61 rfl
theorem f_19_62 : ft 19 62 = some (129, .ireturn, []) := rfl
theorem s_19_62 {d : Nat} {σ : xS} {ls : xL} {Q : xR → xS → Prop} {x : Int32} : G d 19 62 ls [.int x] σ Q ↔ Q (.inl (some (.int x))) σ := gs_reti f_19_62 rfl
theorem f_19_63 : ft 19 63 = some (130, .iconst 0, []) := rfl
theorem s_19_63 {d : Nat} {σ : xS} {st : List Value} {Q : xR → xS → Prop} {l0 l1 l2 : Option Value} : G d 19 63 [l0, l1, l2] st σ Q ↔ G d 19 64 [l0, l1, l2] (.int (0) :: st) σ Q := gs_go f_19_63 rfl
theorem f_19_64 : ft 19 64 = some (131, .ireturn, []) := rfl
theorem s_19_64 {d : Nat} {σ : xS} {ls : xL} {Q : xR → xS → Prop} {x : Int32} : G d 19 64 ls [.int x] σ Q ↔ Q (.inl (some (.int x))) σ := gs_reti f_19_64 rfl
theorem f_20_0 : ft 20 0 = some (0, .aload_n 0, []) := rfl
theorem s_20_0 {d : Nat} {σ : xS} {st : List Value} {Q : xR → xS → Prop} {l1 l2 : Option Value} {x : Nat} : G d 20 0 [some (.ref x), l1, l2] st σ Q ↔ G d 20 1 [some (.ref x), l1, l2] (.ref x :: st) σ Q := gs_go f_20_0 rfl
theorem f_20_1 : ft 20 1 = some (1, .invokespecial 3, [0, 1, 20, 224]) := rfl
theorem f_20_2 : ft 20 2 = some (4, .aload_n 0, []) := rfl
theorem s_20_2 {d : Nat} {σ : xS} {st : List Value} {Q : xR → xS → Prop} {l1 l2 : Option Value} {x : Nat} : G d 20 2 [some (.ref x), l1, l2] st σ Q ↔ G d 20 3 [some (.ref x), l1, l2] (.ref x :: st) σ Q := gs_go f_20_2 rfl
theorem f_20_3 : ft 20 3 = some (5, .lconst 0, []) := rfl
theorem s_20_3 {d : Nat} {σ : xS} {st : List Value} {Q : xR → xS → Prop} {l0 l1 l2 : Option Value} : G d 20 3 [l0, l1, l2] st σ Q ↔ G d 20 4 [l0, l1, l2] (.long (0) :: st) σ Q := gs_go f_20_3 rfl
theorem f_20_4 : ft 20 4 = some (6, .putfield 9, [3, 3, 0, 244]) := rfl
theorem s_20_4 {d : Nat} {t : yT} {st : List Value} {Q : xR → xS → Prop} {l0 l1 l2 : Option Value} {a : Nat} {x : Int64} (ho : yisO 3 a) : G d 20 4 [l0, l1, l2] (.long x :: .ref a :: st) (yemb t) Q ↔ G d 20 5 [l0, l1, l2] st (yemb (t.sL a 3 x)) Q := gs_putL (c := 3) (j := 3) f_20_4 (fun _ => rfl) rfl rfl ho
theorem f_20_5 : ft 20 5 = some (9, .aload_n 0, []) := rfl
theorem s_20_5 {d : Nat} {σ : xS} {st : List Value} {Q : xR → xS → Prop} {l1 l2 : Option Value} {x : Nat} : G d 20 5 [some (.ref x), l1, l2] st σ Q ↔ G d 20 6 [some (.ref x), l1, l2] (.ref x :: st) σ Q := gs_go f_20_5 rfl
theorem f_20_6 : ft 20 6 = some (10, .lconst 0, []) := rfl
theorem s_20_6 {d : Nat} {σ : xS} {st : List Value} {Q : xR → xS → Prop} {l0 l1 l2 : Option Value} : G d 20 6 [l0, l1, l2] st σ Q ↔ G d 20 7 [l0, l1, l2] (.long (0) :: st) σ Q := gs_go f_20_6 rfl
theorem f_20_7 : ft 20 7 = some (11, .putfield 15, [3, 4, 0, 245]) := rfl
theorem s_20_7 {d : Nat} {t : yT} {st : List Value} {Q : xR → xS → Prop} {l0 l1 l2 : Option Value} {a : Nat} {x : Int64} (ho : yisO 3 a) : G d 20 7 [l0, l1, l2] (.long x :: .ref a :: st) (yemb t) Q ↔ G d 20 8 [l0, l1, l2] st (yemb (t.sL a 4 x)) Q := gs_putL (c := 3) (j := 4) f_20_7 (fun _ => rfl) rfl rfl ho
theorem f_20_8 : ft 20 8 = some (14, .aload_n 0, []) := rfl
theorem s_20_8 {d : Nat} {σ : xS} {st : List Value} {Q : xR → xS → Prop} {l1 l2 : Option Value} {x : Nat} : G d 20 8 [some (.ref x), l1, l2] st σ Q ↔ G d 20 9 [some (.ref x), l1, l2] (.ref x :: st) σ Q := gs_go f_20_8 rfl
theorem f_20_9 : ft 20 9 = some (15, .iconst 0, []) := rfl
theorem s_20_9 {d : Nat} {σ : xS} {st : List Value} {Q : xR → xS → Prop} {l0 l1 l2 : Option Value} : G d 20 9 [l0, l1, l2] st σ Q ↔ G d 20 10 [l0, l1, l2] (.int (0) :: st) σ Q := gs_go f_20_9 rfl
theorem f_20_10 : ft 20 10 = some (16, .putfield 18, [3, 5, 0, 246]) := rfl
theorem s_20_10 {d : Nat} {t : yT} {st : List Value} {Q : xR → xS → Prop} {l0 l1 l2 : Option Value} {a : Nat} {x : Int32} (hb : ybo x) (ho : yisO 3 a) : G d 20 10 [l0, l1, l2] (.int x :: .ref a :: st) (yemb t) Q ↔ G d 20 11 [l0, l1, l2] st (yemb (t.s1 a 5 x)) Q := gs_putI (c := 3) (j := 5) f_20_10 (fun _ => rfl) hb (yfb hb) ho
theorem f_20_11 : ft 20 11 = some (19, .aload_n 0, []) := rfl
theorem s_20_11 {d : Nat} {σ : xS} {st : List Value} {Q : xR → xS → Prop} {l1 l2 : Option Value} {x : Nat} : G d 20 11 [some (.ref x), l1, l2] st σ Q ↔ G d 20 12 [some (.ref x), l1, l2] (.ref x :: st) σ Q := gs_go f_20_11 rfl
theorem f_20_12 : ft 20 12 = some (20, .iconst 0, []) := rfl
theorem s_20_12 {d : Nat} {σ : xS} {st : List Value} {Q : xR → xS → Prop} {l0 l1 l2 : Option Value} : G d 20 12 [l0, l1, l2] st σ Q ↔ G d 20 13 [l0, l1, l2] (.int (0) :: st) σ Q := gs_go f_20_12 rfl
theorem f_20_13 : ft 20 13 = some (21, .putfield 22, [3, 6, 0, 247]) := rfl
theorem s_20_13 {d : Nat} {t : yT} {st : List Value} {Q : xR → xS → Prop} {l0 l1 l2 : Option Value} {a : Nat} {x : Int32} (hb : ybo x) (ho : yisO 3 a) : G d 20 13 [l0, l1, l2] (.int x :: .ref a :: st) (yemb t) Q ↔ G d 20 14 [l0, l1, l2] st (yemb (t.s1 a 6 x)) Q := gs_putI (c := 3) (j := 6) f_20_13 (fun _ => rfl) hb (yfb hb) ho
theorem f_20_14 : ft 20 14 = some (24, .aload_n 0, []) := rfl
theorem s_20_14 {d : Nat} {σ : xS} {st : List Value} {Q : xR → xS → Prop} {l1 l2 : Option Value} {x : Nat} : G d 20 14 [some (.ref x), l1, l2] st σ Q ↔ G d 20 15 [some (.ref x), l1, l2] (.ref x :: st) σ Q := gs_go f_20_14 rfl
theorem f_20_15 : ft 20 15 = some (25, .aload_n 1, []) := rfl
theorem s_20_15 {d : Nat} {σ : xS} {st : List Value} {Q : xR → xS → Prop} {l0 l2 : Option Value} {x : Nat} : G d 20 15 [l0, some (.ref x), l2] st σ Q ↔ G d 20 16 [l0, some (.ref x), l2] (.ref x :: st) σ Q := gs_go f_20_15 rfl
theorem f_20_16 : ft 20 16 = some (26, .putfield 25, [3, 0, 0, 241]) := rfl
theorem f_20_17 : ft 20 17 = some (29, .aload_n 0, []) := rfl
theorem s_20_17 {d : Nat} {σ : xS} {st : List Value} {Q : xR → xS → Prop} {l1 l2 : Option Value} {x : Nat} : G d 20 17 [some (.ref x), l1, l2] st σ Q ↔ G d 20 18 [some (.ref x), l1, l2] (.ref x :: st) σ Q := gs_go f_20_17 rfl
theorem f_20_18 : ft 20 18 = some (30, .aload_n 2, []) := rfl
theorem s_20_18 {d : Nat} {σ : xS} {st : List Value} {Q : xR → xS → Prop} {l0 l1 : Option Value} {x : Nat} : G d 20 18 [l0, l1, some (.ref x)] st σ Q ↔ G d 20 19 [l0, l1, some (.ref x)] (.ref x :: st) σ Q := gs_go f_20_18 rfl
theorem f_20_19 : ft 20 19 = some (31, .putfield 29, [3, 1, 0, 242]) := rfl
theorem f_20_20 : ft 20 20 = some (34, .aload_n 0, []) := rfl
theorem s_20_20 {d : Nat} {σ : xS} {st : List Value} {Q : xR → xS → Prop} {l1 l2 : Option Value} {x : Nat} : G d 20 20 [some (.ref x), l1, l2] st σ Q ↔ G d 20 21 [some (.ref x), l1, l2] (.ref x :: st) σ Q := gs_go f_20_20 rfl
theorem f_20_21 : ft 20 21 = some (35, .new 33, [0, 5, 225]) := rfl
theorem f_20_22 : ft 20 22 = some (38, .dup, []) := rfl
theorem s_20_22 {d : Nat} {σ : xS} {st : List Value} {Q : xR → xS → Prop} {l0 l1 l2 : Option Value} {x : Nat} : G d 20 22 [l0, l1, l2] (.ref x :: st) σ Q ↔ G d 20 23 [l0, l1, l2] (.ref x :: .ref x :: st) σ Q := gs_go f_20_22 rfl
theorem s_20_22i {d : Nat} {σ : xS} {st : List Value} {Q : xR → xS → Prop} {l0 l1 l2 : Option Value} {x : Int32} : G d 20 22 [l0, l1, l2] (.int x :: st) σ Q ↔ G d 20 23 [l0, l1, l2] (.int x :: .int x :: st) σ Q := gs_go f_20_22 rfl
theorem f_20_23 : ft 20 23 = some (39, .aload_n 1, []) := rfl
theorem s_20_23 {d : Nat} {σ : xS} {st : List Value} {Q : xR → xS → Prop} {l0 l2 : Option Value} {x : Nat} : G d 20 23 [l0, some (.ref x), l2] st σ Q ↔ G d 20 24 [l0, some (.ref x), l2] (.ref x :: st) σ Q := gs_go f_20_23 rfl
theorem f_20_24 : ft 20 24 = some (40, .invokespecial 35, [65, 2, 2, 227]) := rfl
theorem s_20_24 {d : Nat} {t : yT} {st : List Value} {Q : xR → xS → Prop} {l0 l1 l2 : Option Value} {a0 : Nat} {a1 : Nat} (ho : yisO 5 a0) : G (d + 1) 20 24 [l0, l1, l2] (.ref a1 :: .ref a0 :: st) (yemb t) Q ↔ xcat st ≤ 8 ∧ Cl d 65 [.ref a0, .ref a1] (yemb t) (Gk (d + 1) 20 24 [l0, l1, l2] st Q) := gs_call f_20_24 ((xinv_call (i := 24) (n := 227) (ls := [l0, l1, l2]) (kind := 2) (σ := yemb t) (by decide)).trans (xcall_vi [.ref a1, .ref a0] rfl rfl (show (2 : Nat) ≤ 2 by decide) rfl ho))
theorem f_20_25 : ft 20 25 = some (43, .putfield 38, [3, 2, 0, 243]) := rfl
theorem f_20_26 : ft 20 26 = some (46, .return_, []) := rfl
theorem s_20_26 {d : Nat} {σ : xS} {ls : xL} {Q : xR → xS → Prop} : G d 20 26 ls [] σ Q ↔ Q (.inl none) σ := gs_ret f_20_26 rfl
theorem f_21_0 : ft 21 0 = some (0, .aload_n 0, []) := rfl
theorem s_21_0 {d : Nat} {σ : xS} {st : List Value} {Q : xR → xS → Prop} {l1 : Option Value} {x : Nat} : G d 21 0 [some (.ref x), l1] st σ Q ↔ G d 21 1 [some (.ref x), l1] (.ref x :: st) σ Q := gs_go f_21_0 rfl
theorem f_21_1 : ft 21 1 = some (1, .lconst 0, []) := rfl
theorem s_21_1 {d : Nat} {σ : xS} {st : List Value} {Q : xR → xS → Prop} {l0 l1 : Option Value} : G d 21 1 [l0, l1] st σ Q ↔ G d 21 2 [l0, l1] (.long (0) :: st) σ Q := gs_go f_21_1 rfl
theorem f_21_2 : ft 21 2 = some (2, .putfield 9, [3, 3, 0, 244]) := rfl
theorem s_21_2 {d : Nat} {t : yT} {st : List Value} {Q : xR → xS → Prop} {l0 l1 : Option Value} {a : Nat} {x : Int64} (ho : yisO 3 a) : G d 21 2 [l0, l1] (.long x :: .ref a :: st) (yemb t) Q ↔ G d 21 3 [l0, l1] st (yemb (t.sL a 3 x)) Q := gs_putL (c := 3) (j := 3) f_21_2 (fun _ => rfl) rfl rfl ho
theorem f_21_3 : ft 21 3 = some (5, .aload_n 0, []) := rfl
theorem s_21_3 {d : Nat} {σ : xS} {st : List Value} {Q : xR → xS → Prop} {l1 : Option Value} {x : Nat} : G d 21 3 [some (.ref x), l1] st σ Q ↔ G d 21 4 [some (.ref x), l1] (.ref x :: st) σ Q := gs_go f_21_3 rfl
theorem f_21_4 : ft 21 4 = some (6, .lconst 0, []) := rfl
theorem s_21_4 {d : Nat} {σ : xS} {st : List Value} {Q : xR → xS → Prop} {l0 l1 : Option Value} : G d 21 4 [l0, l1] st σ Q ↔ G d 21 5 [l0, l1] (.long (0) :: st) σ Q := gs_go f_21_4 rfl
theorem f_21_5 : ft 21 5 = some (7, .putfield 15, [3, 4, 0, 245]) := rfl
theorem s_21_5 {d : Nat} {t : yT} {st : List Value} {Q : xR → xS → Prop} {l0 l1 : Option Value} {a : Nat} {x : Int64} (ho : yisO 3 a) : G d 21 5 [l0, l1] (.long x :: .ref a :: st) (yemb t) Q ↔ G d 21 6 [l0, l1] st (yemb (t.sL a 4 x)) Q := gs_putL (c := 3) (j := 4) f_21_5 (fun _ => rfl) rfl rfl ho
theorem f_21_6 : ft 21 6 = some (10, .aload_n 0, []) := rfl
theorem s_21_6 {d : Nat} {σ : xS} {st : List Value} {Q : xR → xS → Prop} {l1 : Option Value} {x : Nat} : G d 21 6 [some (.ref x), l1] st σ Q ↔ G d 21 7 [some (.ref x), l1] (.ref x :: st) σ Q := gs_go f_21_6 rfl
theorem f_21_7 : ft 21 7 = some (11, .iconst 0, []) := rfl
theorem s_21_7 {d : Nat} {σ : xS} {st : List Value} {Q : xR → xS → Prop} {l0 l1 : Option Value} : G d 21 7 [l0, l1] st σ Q ↔ G d 21 8 [l0, l1] (.int (0) :: st) σ Q := gs_go f_21_7 rfl
theorem f_21_8 : ft 21 8 = some (12, .putfield 18, [3, 5, 0, 246]) := rfl
theorem s_21_8 {d : Nat} {t : yT} {st : List Value} {Q : xR → xS → Prop} {l0 l1 : Option Value} {a : Nat} {x : Int32} (hb : ybo x) (ho : yisO 3 a) : G d 21 8 [l0, l1] (.int x :: .ref a :: st) (yemb t) Q ↔ G d 21 9 [l0, l1] st (yemb (t.s1 a 5 x)) Q := gs_putI (c := 3) (j := 5) f_21_8 (fun _ => rfl) hb (yfb hb) ho
theorem f_21_9 : ft 21 9 = some (15, .aload_n 0, []) := rfl
theorem s_21_9 {d : Nat} {σ : xS} {st : List Value} {Q : xR → xS → Prop} {l1 : Option Value} {x : Nat} : G d 21 9 [some (.ref x), l1] st σ Q ↔ G d 21 10 [some (.ref x), l1] (.ref x :: st) σ Q := gs_go f_21_9 rfl
theorem f_21_10 : ft 21 10 = some (16, .iconst 0, []) := rfl
theorem s_21_10 {d : Nat} {σ : xS} {st : List Value} {Q : xR → xS → Prop} {l0 l1 : Option Value} : G d 21 10 [l0, l1] st σ Q ↔ G d 21 11 [l0, l1] (.int (0) :: st) σ Q := gs_go f_21_10 rfl
theorem f_21_11 : ft 21 11 = some (17, .putfield 22, [3, 6, 0, 247]) := rfl
theorem s_21_11 {d : Nat} {t : yT} {st : List Value} {Q : xR → xS → Prop} {l0 l1 : Option Value} {a : Nat} {x : Int32} (hb : ybo x) (ho : yisO 3 a) : G d 21 11 [l0, l1] (.int x :: .ref a :: st) (yemb t) Q ↔ G d 21 12 [l0, l1] st (yemb (t.s1 a 6 x)) Q := gs_putI (c := 3) (j := 6) f_21_11 (fun _ => rfl) hb (yfb hb) ho
theorem f_21_12 : ft 21 12 = some (20, .aload_n 0, []) := rfl
theorem s_21_12 {d : Nat} {σ : xS} {st : List Value} {Q : xR → xS → Prop} {l1 : Option Value} {x : Nat} : G d 21 12 [some (.ref x), l1] st σ Q ↔ G d 21 13 [some (.ref x), l1] (.ref x :: st) σ Q := gs_go f_21_12 rfl
theorem f_21_13 : ft 21 13 = some (21, .getfield 38, [3, 2, 0, 243]) := rfl
theorem s_21_13 {d : Nat} {t : yT} {st : List Value} {Q : xR → xS → Prop} {l0 l1 : Option Value} {a : Nat} (ho : yisO 3 a) : G d 21 13 [l0, l1] (.ref a :: st) (yemb t) Q ↔ G d 21 14 [l0, l1] (.ref 32 :: st) (yemb t) Q := gs_getf (c := 3) (j := 2) (q := .c 32) f_21_13 ho rfl
theorem f_21_14 : ft 21 14 = some (24, .invokevirtual 42, [66, 1, 0, 684]) := rfl
theorem s_21_14 {d : Nat} {t : yT} {st : List Value} {Q : xR → xS → Prop} {l0 l1 : Option Value} {a0 : Nat} (ho : yisO 5 a0) : G (d + 1) 21 14 [l0, l1] (.ref a0 :: st) (yemb t) Q ↔ xcat st ≤ 8 ∧ Cl d 66 [.ref a0] (yemb t) (Gk (d + 1) 21 14 [l0, l1] st Q) := gs_call f_21_14 ((xinv_call (i := 14) (n := 684) (ls := [l0, l1]) (kind := 0) (σ := yemb t) (by decide)).trans (xcall_vi [.ref a0] rfl rfl (show (1 : Nat) ≤ 1 by decide) rfl ho))
theorem f_21_15 : ft 21 15 = some (27, .aload_n 0, []) := rfl
theorem s_21_15 {d : Nat} {σ : xS} {st : List Value} {Q : xR → xS → Prop} {l1 : Option Value} {x : Nat} : G d 21 15 [some (.ref x), l1] st σ Q ↔ G d 21 16 [some (.ref x), l1] (.ref x :: st) σ Q := gs_go f_21_15 rfl
theorem f_21_16 : ft 21 16 = some (28, .invokevirtual 45, [22, 1, 0, 688]) := rfl
theorem s_21_16 {d : Nat} {t : yT} {st : List Value} {Q : xR → xS → Prop} {l0 l1 : Option Value} {a0 : Nat} (ho : yisO 3 a0) : G (d + 1) 21 16 [l0, l1] (.ref a0 :: st) (yemb t) Q ↔ xcat st ≤ 8 ∧ Cl d 22 [.ref a0] (yemb t) (Gk (d + 1) 21 16 [l0, l1] st Q) := gs_call f_21_16 ((xinv_call (i := 16) (n := 688) (ls := [l0, l1]) (kind := 0) (σ := yemb t) (by decide)).trans (xcall_vi [.ref a0] rfl rfl (show (1 : Nat) ≤ 3 by decide) rfl ho))
theorem f_21_17 : ft 21 17 = some (31, .ifCond .ne 5, [20]) := rfl
theorem s_21_17 {d : Nat} {σ : xS} {st : List Value} {Q : xR → xS → Prop} {l0 l1 : Option Value} {x : Int32} : G d 21 17 [l0, l1] (.int x :: st) σ Q ↔ if x ≠ 0 then G d 21 20 [l0, l1] st σ Q else G d 21 18 [l0, l1] st σ Q := gs_if f_21_17 rfl
theorem f_21_18 : ft 21 18 = some (34, .iconst 0, []) := rfl
theorem s_21_18 {d : Nat} {σ : xS} {st : List Value} {Q : xR → xS → Prop} {l0 l1 : Option Value} : G d 21 18 [l0, l1] st σ Q ↔ G d 21 19 [l0, l1] (.int (0) :: st) σ Q := gs_go f_21_18 rfl
theorem f_21_19 : ft 21 19 = some (35, .ireturn, []) := rfl
theorem s_21_19 {d : Nat} {σ : xS} {ls : xL} {Q : xR → xS → Prop} {x : Int32} : G d 21 19 ls [.int x] σ Q ↔ ybo x ∧ Q (.inl (some (.int x))) σ := gs_retb f_21_19 rfl
theorem f_21_20 : ft 21 20 = some (36, .iconst 0, []) := rfl
theorem s_21_20 {d : Nat} {σ : xS} {st : List Value} {Q : xR → xS → Prop} {l0 l1 : Option Value} : G d 21 20 [l0, l1] st σ Q ↔ G d 21 21 [l0, l1] (.int (0) :: st) σ Q := gs_go f_21_20 rfl
theorem f_21_21 : ft 21 21 = some (37, .istore_n 1, []) := rfl
theorem s_21_21 {d : Nat} {σ : xS} {st : List Value} {Q : xR → xS → Prop} {l0 l1 : Option Value} {x : Int32} : G d 21 21 [l0, l1] (.int x :: st) σ Q ↔ G d 21 22 [ykl l0, some (.int x)] st σ Q := by
  cases l0 with
  | none => exact gs_go f_21_21 rfl
  | some v => cases v <;> exact gs_go f_21_21 rfl
theorem f_21_22 : ft 21 22 = some (38, .iload_n 1, []) := rfl
theorem s_21_22 {d : Nat} {σ : xS} {st : List Value} {Q : xR → xS → Prop} {l0 : Option Value} {x : Int32} : G d 21 22 [l0, some (.int x)] st σ Q ↔ G d 21 23 [l0, some (.int x)] (.int x :: st) σ Q := gs_go f_21_22 rfl
theorem f_21_23 : ft 21 23 = some (39, .sipush 600, []) := rfl
theorem s_21_23 {d : Nat} {σ : xS} {st : List Value} {Q : xR → xS → Prop} {l0 l1 : Option Value} : G d 21 23 [l0, l1] st σ Q ↔ G d 21 24 [l0, l1] (.int (600) :: st) σ Q := gs_go f_21_23 rfl
theorem f_21_24 : ft 21 24 = some (42, .if_icmp .ge 40, [41]) := rfl
theorem s_21_24 {d : Nat} {σ : xS} {st : List Value} {Q : xR → xS → Prop} {l0 l1 : Option Value} {x y : Int32} : G d 21 24 [l0, l1] (.int y :: .int x :: st) σ Q ↔ if y ≤ x then G d 21 41 [l0, l1] st σ Q else G d 21 25 [l0, l1] st σ Q := gs_if f_21_24 rfl
theorem f_21_25 : ft 21 25 = some (45, .aload_n 0, []) := rfl
theorem s_21_25 {d : Nat} {σ : xS} {st : List Value} {Q : xR → xS → Prop} {l1 : Option Value} {x : Nat} : G d 21 25 [some (.ref x), l1] st σ Q ↔ G d 21 26 [some (.ref x), l1] (.ref x :: st) σ Q := gs_go f_21_25 rfl
theorem f_21_26 : ft 21 26 = some (46, .getfield 25, [3, 0, 0, 241]) := rfl
theorem s_21_26 {d : Nat} {t : yT} {st : List Value} {Q : xR → xS → Prop} {l0 l1 : Option Value} {a : Nat} (ho : yisO 3 a) : G d 21 26 [l0, l1] (.ref a :: st) (yemb t) Q ↔ G d 21 27 [l0, l1] (.ref 1 :: st) (yemb t) Q := gs_getf (c := 3) (j := 0) (q := .c 1) f_21_26 ho rfl
theorem f_21_27 : ft 21 27 = some (49, .invokevirtual 49, [83, 1, 0, 770]) := rfl
theorem s_21_27 {d : Nat} {t : yT} {st : List Value} {Q : xR → xS → Prop} {l0 l1 : Option Value} {a0 : Nat} (ho : yisO 6 a0) : G (d + 1) 21 27 [l0, l1] (.ref a0 :: st) (yemb t) Q ↔ xcat st ≤ 8 ∧ Cl d 83 [.ref a0] (yemb t) (Gk (d + 1) 21 27 [l0, l1] st Q) := gs_call f_21_27 ((xinv_call (i := 27) (n := 770) (ls := [l0, l1]) (kind := 0) (σ := yemb t) (by decide)).trans (xcall_vi [.ref a0] rfl rfl (show (1 : Nat) ≤ 1 by decide) rfl ho))
theorem f_21_28 : ft 21 28 = some (52, .ifCond .ne 30, [41]) := rfl
theorem s_21_28 {d : Nat} {σ : xS} {st : List Value} {Q : xR → xS → Prop} {l0 l1 : Option Value} {x : Int32} : G d 21 28 [l0, l1] (.int x :: st) σ Q ↔ if x ≠ 0 then G d 21 41 [l0, l1] st σ Q else G d 21 29 [l0, l1] st σ Q := gs_if f_21_28 rfl
theorem f_21_29 : ft 21 29 = some (55, .aload_n 0, []) := rfl
theorem s_21_29 {d : Nat} {σ : xS} {st : List Value} {Q : xR → xS → Prop} {l1 : Option Value} {x : Nat} : G d 21 29 [some (.ref x), l1] st σ Q ↔ G d 21 30 [some (.ref x), l1] (.ref x :: st) σ Q := gs_go f_21_29 rfl
theorem f_21_30 : ft 21 30 = some (56, .invokevirtual 54, [23, 1, 0, 774]) := rfl
theorem s_21_30 {d : Nat} {t : yT} {st : List Value} {Q : xR → xS → Prop} {l0 l1 : Option Value} {a0 : Nat} (ho : yisO 3 a0) : G (d + 1) 21 30 [l0, l1] (.ref a0 :: st) (yemb t) Q ↔ xcat st ≤ 8 ∧ Cl d 23 [.ref a0] (yemb t) (Gk (d + 1) 21 30 [l0, l1] st Q) := gs_call f_21_30 ((xinv_call (i := 30) (n := 774) (ls := [l0, l1]) (kind := 0) (σ := yemb t) (by decide)).trans (xcall_vi [.ref a0] rfl rfl (show (1 : Nat) ≤ 1 by decide) rfl ho))
theorem f_21_31 : ft 21 31 = some (59, .ifCond .eq 15, [37]) := rfl
theorem s_21_31 {d : Nat} {σ : xS} {st : List Value} {Q : xR → xS → Prop} {l0 l1 : Option Value} {x : Int32} : G d 21 31 [l0, l1] (.int x :: st) σ Q ↔ if x = 0 then G d 21 37 [l0, l1] st σ Q else G d 21 32 [l0, l1] st σ Q := gs_if f_21_31 rfl
theorem f_21_32 : ft 21 32 = some (62, .aload_n 0, []) := rfl
theorem s_21_32 {d : Nat} {σ : xS} {st : List Value} {Q : xR → xS → Prop} {l1 : Option Value} {x : Nat} : G d 21 32 [some (.ref x), l1] st σ Q ↔ G d 21 33 [some (.ref x), l1] (.ref x :: st) σ Q := gs_go f_21_32 rfl
theorem f_21_33 : ft 21 33 = some (63, .getfield 25, [3, 0, 0, 241]) := rfl
theorem s_21_33 {d : Nat} {t : yT} {st : List Value} {Q : xR → xS → Prop} {l0 l1 : Option Value} {a : Nat} (ho : yisO 3 a) : G d 21 33 [l0, l1] (.ref a :: st) (yemb t) Q ↔ G d 21 34 [l0, l1] (.ref 1 :: st) (yemb t) Q := gs_getf (c := 3) (j := 0) (q := .c 1) f_21_33 ho rfl
theorem f_21_34 : ft 21 34 = some (66, .bipush 59, []) := rfl
theorem s_21_34 {d : Nat} {σ : xS} {st : List Value} {Q : xR → xS → Prop} {l0 l1 : Option Value} : G d 21 34 [l0, l1] st σ Q ↔ G d 21 35 [l0, l1] (.int (59) :: st) σ Q := gs_go f_21_34 rfl
theorem f_21_35 : ft 21 35 = some (68, .invokevirtual 57, [87, 2, 0, 762]) := rfl
theorem s_21_35 {d : Nat} {t : yT} {st : List Value} {Q : xR → xS → Prop} {l0 l1 : Option Value} {a0 : Nat} {a1 : Int32} (ho : yisO 6 a0) : G (d + 1) 21 35 [l0, l1] (.int a1 :: .ref a0 :: st) (yemb t) Q ↔ xcat st ≤ 8 ∧ Cl d 87 [.ref a0, .int a1] (yemb t) (Gk (d + 1) 21 35 [l0, l1] st Q) := gs_call f_21_35 ((xinv_call (i := 35) (n := 762) (ls := [l0, l1]) (kind := 0) (σ := yemb t) (by decide)).trans (xcall_vi [.int a1, .ref a0] rfl rfl (show (2 : Nat) ≤ 2 by decide) rfl ho))
theorem f_21_36 : ft 21 36 = some (71, .ifCond .ne 5, [39]) := rfl
theorem s_21_36 {d : Nat} {σ : xS} {st : List Value} {Q : xR → xS → Prop} {l0 l1 : Option Value} {x : Int32} : G d 21 36 [l0, l1] (.int x :: st) σ Q ↔ if x ≠ 0 then G d 21 39 [l0, l1] st σ Q else G d 21 37 [l0, l1] st σ Q := gs_if f_21_36 rfl
theorem f_21_37 : ft 21 37 = some (74, .iconst 0, []) := rfl
theorem s_21_37 {d : Nat} {σ : xS} {st : List Value} {Q : xR → xS → Prop} {l0 l1 : Option Value} : G d 21 37 [l0, l1] st σ Q ↔ G d 21 38 [l0, l1] (.int (0) :: st) σ Q := gs_go f_21_37 rfl
theorem f_21_38 : ft 21 38 = some (75, .ireturn, []) := rfl
theorem s_21_38 {d : Nat} {σ : xS} {ls : xL} {Q : xR → xS → Prop} {x : Int32} : G d 21 38 ls [.int x] σ Q ↔ ybo x ∧ Q (.inl (some (.int x))) σ := gs_retb f_21_38 rfl
theorem f_21_39 : ft 21 39 = some (76, .iinc 1 1, []) := rfl
theorem s_21_39 {d : Nat} {σ : xS} {st : List Value} {Q : xR → xS → Prop} {l0 : Option Value} {x : Int32} : G d 21 39 [l0, some (.int x)] st σ Q ↔ G d 21 40 [ykl l0, some (.int (x + 1))] st σ Q := by
  cases l0 with
  | none => exact gs_go f_21_39 rfl
  | some v => cases v <;> exact gs_go f_21_39 rfl
theorem f_21_40 : ft 21 40 = some (79, .goto (-41), [22]) := rfl
theorem s_21_40 {d : Nat} {σ : xS} {st : List Value} {Q : xR → xS → Prop} {l0 l1 : Option Value} : G d 21 40 [l0, l1] st σ Q ↔ G d 21 22 [l0, l1] st σ Q := gs_go f_21_40 rfl
theorem f_21_41 : ft 21 41 = some (82, .aload_n 0, []) := rfl
theorem s_21_41 {d : Nat} {σ : xS} {st : List Value} {Q : xR → xS → Prop} {l1 : Option Value} {x : Nat} : G d 21 41 [some (.ref x), l1] st σ Q ↔ G d 21 42 [some (.ref x), l1] (.ref x :: st) σ Q := gs_go f_21_41 rfl
theorem f_21_42 : ft 21 42 = some (83, .getfield 25, [3, 0, 0, 241]) := rfl
theorem s_21_42 {d : Nat} {t : yT} {st : List Value} {Q : xR → xS → Prop} {l0 l1 : Option Value} {a : Nat} (ho : yisO 3 a) : G d 21 42 [l0, l1] (.ref a :: st) (yemb t) Q ↔ G d 21 43 [l0, l1] (.ref 1 :: st) (yemb t) Q := gs_getf (c := 3) (j := 0) (q := .c 1) f_21_42 ho rfl
theorem f_21_43 : ft 21 43 = some (86, .invokevirtual 61, [86, 1, 0, 874]) := rfl
theorem s_21_43 {d : Nat} {t : yT} {st : List Value} {Q : xR → xS → Prop} {l0 l1 : Option Value} {a0 : Nat} (ho : yisO 6 a0) : G (d + 1) 21 43 [l0, l1] (.ref a0 :: st) (yemb t) Q ↔ xcat st ≤ 8 ∧ Cl d 86 [.ref a0] (yemb t) (Gk (d + 1) 21 43 [l0, l1] st Q) := gs_call f_21_43 ((xinv_call (i := 43) (n := 874) (ls := [l0, l1]) (kind := 0) (σ := yemb t) (by decide)).trans (xcall_vi [.ref a0] rfl rfl (show (1 : Nat) ≤ 1 by decide) rfl ho))
theorem f_21_44 : ft 21 44 = some (89, .ireturn, []) := rfl
theorem s_21_44 {d : Nat} {σ : xS} {ls : xL} {Q : xR → xS → Prop} {x : Int32} : G d 21 44 ls [.int x] σ Q ↔ ybo x ∧ Q (.inl (some (.int x))) σ := gs_retb f_21_44 rfl
theorem f_22_0 : ft 22 0 = some (0, .aload_n 0, []) := rfl
theorem s_22_0 {d : Nat} {σ : xS} {st : List Value} {Q : xR → xS → Prop} {l1 l2 : Option Value} {x : Nat} : G d 22 0 [some (.ref x), l1, l2] st σ Q ↔ G d 22 1 [some (.ref x), l1, l2] (.ref x :: st) σ Q := gs_go f_22_0 rfl
theorem f_22_1 : ft 22 1 = some (1, .getfield 25, [3, 0, 0, 241]) := rfl
theorem s_22_1 {d : Nat} {t : yT} {st : List Value} {Q : xR → xS → Prop} {l0 l1 l2 : Option Value} {a : Nat} (ho : yisO 3 a) : G d 22 1 [l0, l1, l2] (.ref a :: st) (yemb t) Q ↔ G d 22 2 [l0, l1, l2] (.ref 1 :: st) (yemb t) Q := gs_getf (c := 3) (j := 0) (q := .c 1) f_22_1 ho rfl
theorem f_22_2 : ft 22 2 = some (4, .ldc 64, [1, 11, 692]) := rfl
theorem s_22_2 {d : Nat} {σ : xS} {st : List Value} {Q : xR → xS → Prop} {l0 l1 l2 : Option Value} : G d 22 2 [l0, l1, l2] st σ Q ↔ G d 22 3 [l0, l1, l2] (.ref 1000111 :: st) σ Q := gs_go f_22_2 rfl
theorem f_22_3 : ft 22 3 = some (6, .invokevirtual 66, [88, 2, 0, 693]) := rfl
theorem s_22_3 {d : Nat} {t : yT} {st : List Value} {Q : xR → xS → Prop} {l0 l1 l2 : Option Value} {a0 : Nat} {a1 : Nat} (ho : yisO 6 a0) : G (d + 1) 22 3 [l0, l1, l2] (.ref a1 :: .ref a0 :: st) (yemb t) Q ↔ xcat st ≤ 8 ∧ Cl d 88 [.ref a0, .ref a1] (yemb t) (Gk (d + 1) 22 3 [l0, l1, l2] st Q) := gs_call f_22_3 ((xinv_call (i := 3) (n := 693) (ls := [l0, l1, l2]) (kind := 0) (σ := yemb t) (by decide)).trans (xcall_vi [.ref a1, .ref a0] rfl rfl (show (2 : Nat) ≤ 2 by decide) rfl ho))
theorem f_22_4 : ft 22 4 = some (9, .ifCond .ne 5, [7]) := rfl
theorem s_22_4 {d : Nat} {σ : xS} {st : List Value} {Q : xR → xS → Prop} {l0 l1 l2 : Option Value} {x : Int32} : G d 22 4 [l0, l1, l2] (.int x :: st) σ Q ↔ if x ≠ 0 then G d 22 7 [l0, l1, l2] st σ Q else G d 22 5 [l0, l1, l2] st σ Q := gs_if f_22_4 rfl
theorem f_22_5 : ft 22 5 = some (12, .iconst 0, []) := rfl
theorem s_22_5 {d : Nat} {σ : xS} {st : List Value} {Q : xR → xS → Prop} {l0 l1 l2 : Option Value} : G d 22 5 [l0, l1, l2] st σ Q ↔ G d 22 6 [l0, l1, l2] (.int (0) :: st) σ Q := gs_go f_22_5 rfl
theorem f_22_6 : ft 22 6 = some (13, .ireturn, []) := rfl
theorem s_22_6 {d : Nat} {σ : xS} {ls : xL} {Q : xR → xS → Prop} {x : Int32} : G d 22 6 ls [.int x] σ Q ↔ ybo x ∧ Q (.inl (some (.int x))) σ := gs_retb f_22_6 rfl
theorem f_22_7 : ft 22 7 = some (14, .aload_n 0, []) := rfl
theorem s_22_7 {d : Nat} {σ : xS} {st : List Value} {Q : xR → xS → Prop} {l1 l2 : Option Value} {x : Nat} : G d 22 7 [some (.ref x), l1, l2] st σ Q ↔ G d 22 8 [some (.ref x), l1, l2] (.ref x :: st) σ Q := gs_go f_22_7 rfl
theorem f_22_8 : ft 22 8 = some (15, .getfield 25, [3, 0, 0, 241]) := rfl
theorem s_22_8 {d : Nat} {t : yT} {st : List Value} {Q : xR → xS → Prop} {l0 l1 l2 : Option Value} {a : Nat} (ho : yisO 3 a) : G d 22 8 [l0, l1, l2] (.ref a :: st) (yemb t) Q ↔ G d 22 9 [l0, l1, l2] (.ref 1 :: st) (yemb t) Q := gs_getf (c := 3) (j := 0) (q := .c 1) f_22_8 ho rfl
theorem f_22_9 : ft 22 9 = some (18, .iconst 1, []) := rfl
theorem s_22_9 {d : Nat} {σ : xS} {st : List Value} {Q : xR → xS → Prop} {l0 l1 l2 : Option Value} : G d 22 9 [l0, l1, l2] st σ Q ↔ G d 22 10 [l0, l1, l2] (.int (1) :: st) σ Q := gs_go f_22_9 rfl
theorem f_22_10 : ft 22 10 = some (19, .bipush 40, []) := rfl
theorem s_22_10 {d : Nat} {σ : xS} {st : List Value} {Q : xR → xS → Prop} {l0 l1 l2 : Option Value} : G d 22 10 [l0, l1, l2] st σ Q ↔ G d 22 11 [l0, l1, l2] (.int (40) :: st) σ Q := gs_go f_22_10 rfl
theorem f_22_11 : ft 22 11 = some (21, .invokevirtual 70, [89, 3, 0, 757]) := rfl
theorem s_22_11 {d : Nat} {t : yT} {st : List Value} {Q : xR → xS → Prop} {l0 l1 l2 : Option Value} {a0 : Nat} {a1 : Int32} {a2 : Int32} (ho : yisO 6 a0) : G (d + 1) 22 11 [l0, l1, l2] (.int a2 :: .int a1 :: .ref a0 :: st) (yemb t) Q ↔ xcat st ≤ 8 ∧ Cl d 89 [.ref a0, .int a1, .int a2] (yemb t) (Gk (d + 1) 22 11 [l0, l1, l2] st Q) := gs_call f_22_11 ((xinv_call (i := 11) (n := 757) (ls := [l0, l1, l2]) (kind := 0) (σ := yemb t) (by decide)).trans (xcall_vi [.int a2, .int a1, .ref a0] rfl rfl (show (3 : Nat) ≤ 4 by decide) rfl ho))
theorem f_22_12 : ft 22 12 = some (24, .istore_n 1, []) := rfl
theorem s_22_12 {d : Nat} {σ : xS} {st : List Value} {Q : xR → xS → Prop} {l0 l1 l2 : Option Value} {x : Int32} : G d 22 12 [l0, l1, l2] (.int x :: st) σ Q ↔ G d 22 13 [ykl l0, some (.int x), l2] st σ Q := by
  cases l0 with
  | none => exact gs_go f_22_12 rfl
  | some v => cases v <;> exact gs_go f_22_12 rfl
theorem f_22_13 : ft 22 13 = some (25, .iload_n 1, []) := rfl
theorem s_22_13 {d : Nat} {σ : xS} {st : List Value} {Q : xR → xS → Prop} {l0 l2 : Option Value} {x : Int32} : G d 22 13 [l0, some (.int x), l2] st σ Q ↔ G d 22 14 [l0, some (.int x), l2] (.int x :: st) σ Q := gs_go f_22_13 rfl
theorem f_22_14 : ft 22 14 = some (26, .ifCond .ge 5, [17]) := rfl
theorem s_22_14 {d : Nat} {σ : xS} {st : List Value} {Q : xR → xS → Prop} {l0 l1 l2 : Option Value} {x : Int32} : G d 22 14 [l0, l1, l2] (.int x :: st) σ Q ↔ if 0 ≤ x then G d 22 17 [l0, l1, l2] st σ Q else G d 22 15 [l0, l1, l2] st σ Q := gs_if f_22_14 rfl
theorem f_22_15 : ft 22 15 = some (29, .iconst 0, []) := rfl
theorem s_22_15 {d : Nat} {σ : xS} {st : List Value} {Q : xR → xS → Prop} {l0 l1 l2 : Option Value} : G d 22 15 [l0, l1, l2] st σ Q ↔ G d 22 16 [l0, l1, l2] (.int (0) :: st) σ Q := gs_go f_22_15 rfl
theorem f_22_16 : ft 22 16 = some (30, .ireturn, []) := rfl
theorem s_22_16 {d : Nat} {σ : xS} {ls : xL} {Q : xR → xS → Prop} {x : Int32} : G d 22 16 ls [.int x] σ Q ↔ ybo x ∧ Q (.inl (some (.int x))) σ := gs_retb f_22_16 rfl
theorem f_22_17 : ft 22 17 = some (31, .aload_n 0, []) := rfl
theorem s_22_17 {d : Nat} {σ : xS} {st : List Value} {Q : xR → xS → Prop} {l1 l2 : Option Value} {x : Nat} : G d 22 17 [some (.ref x), l1, l2] st σ Q ↔ G d 22 18 [some (.ref x), l1, l2] (.ref x :: st) σ Q := gs_go f_22_17 rfl
theorem f_22_18 : ft 22 18 = some (32, .getfield 25, [3, 0, 0, 241]) := rfl
theorem s_22_18 {d : Nat} {t : yT} {st : List Value} {Q : xR → xS → Prop} {l0 l1 l2 : Option Value} {a : Nat} (ho : yisO 3 a) : G d 22 18 [l0, l1, l2] (.ref a :: st) (yemb t) Q ↔ G d 22 19 [l0, l1, l2] (.ref 1 :: st) (yemb t) Q := gs_getf (c := 3) (j := 0) (q := .c 1) f_22_18 ho rfl
theorem f_22_19 : ft 22 19 = some (35, .iconst 1, []) := rfl
theorem s_22_19 {d : Nat} {σ : xS} {st : List Value} {Q : xR → xS → Prop} {l0 l1 l2 : Option Value} : G d 22 19 [l0, l1, l2] st σ Q ↔ G d 22 20 [l0, l1, l2] (.int (1) :: st) σ Q := gs_go f_22_19 rfl
theorem f_22_20 : ft 22 20 = some (36, .bipush 100, []) := rfl
theorem s_22_20 {d : Nat} {σ : xS} {st : List Value} {Q : xR → xS → Prop} {l0 l1 l2 : Option Value} : G d 22 20 [l0, l1, l2] st σ Q ↔ G d 22 21 [l0, l1, l2] (.int (100) :: st) σ Q := gs_go f_22_20 rfl
theorem f_22_21 : ft 22 21 = some (38, .invokevirtual 70, [89, 3, 0, 757]) := rfl
theorem s_22_21 {d : Nat} {t : yT} {st : List Value} {Q : xR → xS → Prop} {l0 l1 l2 : Option Value} {a0 : Nat} {a1 : Int32} {a2 : Int32} (ho : yisO 6 a0) : G (d + 1) 22 21 [l0, l1, l2] (.int a2 :: .int a1 :: .ref a0 :: st) (yemb t) Q ↔ xcat st ≤ 8 ∧ Cl d 89 [.ref a0, .int a1, .int a2] (yemb t) (Gk (d + 1) 22 21 [l0, l1, l2] st Q) := gs_call f_22_21 ((xinv_call (i := 21) (n := 757) (ls := [l0, l1, l2]) (kind := 0) (σ := yemb t) (by decide)).trans (xcall_vi [.int a2, .int a1, .ref a0] rfl rfl (show (3 : Nat) ≤ 4 by decide) rfl ho))
theorem f_22_22 : ft 22 22 = some (41, .istore_n 2, []) := rfl
theorem s_22_22 {d : Nat} {σ : xS} {st : List Value} {Q : xR → xS → Prop} {l0 l1 l2 : Option Value} {x : Int32} : G d 22 22 [l0, l1, l2] (.int x :: st) σ Q ↔ G d 22 23 [l0, ykl l1, some (.int x)] st σ Q := by
  cases l1 with
  | none => exact gs_go f_22_22 rfl
  | some v => cases v <;> exact gs_go f_22_22 rfl
theorem f_22_23 : ft 22 23 = some (42, .iload_n 2, []) := rfl
theorem s_22_23 {d : Nat} {σ : xS} {st : List Value} {Q : xR → xS → Prop} {l0 l1 : Option Value} {x : Int32} : G d 22 23 [l0, l1, some (.int x)] st σ Q ↔ G d 22 24 [l0, l1, some (.int x)] (.int x :: st) σ Q := gs_go f_22_23 rfl
theorem f_22_24 : ft 22 24 = some (43, .ifCond .ge 5, [27]) := rfl
theorem s_22_24 {d : Nat} {σ : xS} {st : List Value} {Q : xR → xS → Prop} {l0 l1 l2 : Option Value} {x : Int32} : G d 22 24 [l0, l1, l2] (.int x :: st) σ Q ↔ if 0 ≤ x then G d 22 27 [l0, l1, l2] st σ Q else G d 22 25 [l0, l1, l2] st σ Q := gs_if f_22_24 rfl
theorem f_22_25 : ft 22 25 = some (46, .iconst 0, []) := rfl
theorem s_22_25 {d : Nat} {σ : xS} {st : List Value} {Q : xR → xS → Prop} {l0 l1 l2 : Option Value} : G d 22 25 [l0, l1, l2] st σ Q ↔ G d 22 26 [l0, l1, l2] (.int (0) :: st) σ Q := gs_go f_22_25 rfl
theorem f_22_26 : ft 22 26 = some (47, .ireturn, []) := rfl
theorem s_22_26 {d : Nat} {σ : xS} {ls : xL} {Q : xR → xS → Prop} {x : Int32} : G d 22 26 ls [.int x] σ Q ↔ ybo x ∧ Q (.inl (some (.int x))) σ := gs_retb f_22_26 rfl
theorem f_22_27 : ft 22 27 = some (48, .aload_n 0, []) := rfl
theorem s_22_27 {d : Nat} {σ : xS} {st : List Value} {Q : xR → xS → Prop} {l1 l2 : Option Value} {x : Nat} : G d 22 27 [some (.ref x), l1, l2] st σ Q ↔ G d 22 28 [some (.ref x), l1, l2] (.ref x :: st) σ Q := gs_go f_22_27 rfl
theorem f_22_28 : ft 22 28 = some (49, .getfield 29, [3, 1, 0, 242]) := rfl
theorem s_22_28 {d : Nat} {t : yT} {st : List Value} {Q : xR → xS → Prop} {l0 l1 l2 : Option Value} {a : Nat} (ho : yisO 3 a) : G d 22 28 [l0, l1, l2] (.ref a :: st) (yemb t) Q ↔ G d 22 29 [l0, l1, l2] (.ref 19 :: st) (yemb t) Q := gs_getf (c := 3) (j := 1) (q := .c 19) f_22_28 ho rfl
theorem f_22_29 : ft 22 29 = some (52, .iload_n 1, []) := rfl
theorem s_22_29 {d : Nat} {σ : xS} {st : List Value} {Q : xR → xS → Prop} {l0 l2 : Option Value} {x : Int32} : G d 22 29 [l0, some (.int x), l2] st σ Q ↔ G d 22 30 [l0, some (.int x), l2] (.int x :: st) σ Q := gs_go f_22_29 rfl
theorem f_22_30 : ft 22 30 = some (53, .iload_n 2, []) := rfl
theorem s_22_30 {d : Nat} {σ : xS} {st : List Value} {Q : xR → xS → Prop} {l0 l1 : Option Value} {x : Int32} : G d 22 30 [l0, l1, some (.int x)] st σ Q ↔ G d 22 31 [l0, l1, some (.int x)] (.int x :: st) σ Q := gs_go f_22_30 rfl
theorem f_22_31 : ft 22 31 = some (54, .invokevirtual 74, [30, 3, 0, 761]) := rfl
theorem s_22_31 {d : Nat} {t : yT} {st : List Value} {Q : xR → xS → Prop} {l0 l1 l2 : Option Value} {a0 : Nat} {a1 : Int32} {a2 : Int32} (ho : yisO 4 a0) : G (d + 1) 22 31 [l0, l1, l2] (.int a2 :: .int a1 :: .ref a0 :: st) (yemb t) Q ↔ xcat st ≤ 8 ∧ Cl d 30 [.ref a0, .int a1, .int a2] (yemb t) (Gk (d + 1) 22 31 [l0, l1, l2] st Q) := gs_call f_22_31 ((xinv_call (i := 31) (n := 761) (ls := [l0, l1, l2]) (kind := 0) (σ := yemb t) (by decide)).trans (xcall_vi [.int a2, .int a1, .ref a0] rfl rfl (show (3 : Nat) ≤ 3 by decide) rfl ho))
theorem f_22_32 : ft 22 32 = some (57, .aload_n 0, []) := rfl
theorem s_22_32 {d : Nat} {σ : xS} {st : List Value} {Q : xR → xS → Prop} {l1 l2 : Option Value} {x : Nat} : G d 22 32 [some (.ref x), l1, l2] st σ Q ↔ G d 22 33 [some (.ref x), l1, l2] (.ref x :: st) σ Q := gs_go f_22_32 rfl
theorem f_22_33 : ft 22 33 = some (58, .getfield 25, [3, 0, 0, 241]) := rfl
theorem s_22_33 {d : Nat} {t : yT} {st : List Value} {Q : xR → xS → Prop} {l0 l1 l2 : Option Value} {a : Nat} (ho : yisO 3 a) : G d 22 33 [l0, l1, l2] (.ref a :: st) (yemb t) Q ↔ G d 22 34 [l0, l1, l2] (.ref 1 :: st) (yemb t) Q := gs_getf (c := 3) (j := 0) (q := .c 1) f_22_33 ho rfl
theorem f_22_34 : ft 22 34 = some (61, .bipush 59, []) := rfl
theorem s_22_34 {d : Nat} {σ : xS} {st : List Value} {Q : xR → xS → Prop} {l0 l1 l2 : Option Value} : G d 22 34 [l0, l1, l2] st σ Q ↔ G d 22 35 [l0, l1, l2] (.int (59) :: st) σ Q := gs_go f_22_34 rfl
theorem f_22_35 : ft 22 35 = some (63, .invokevirtual 57, [87, 2, 0, 762]) := rfl
theorem s_22_35 {d : Nat} {t : yT} {st : List Value} {Q : xR → xS → Prop} {l0 l1 l2 : Option Value} {a0 : Nat} {a1 : Int32} (ho : yisO 6 a0) : G (d + 1) 22 35 [l0, l1, l2] (.int a1 :: .ref a0 :: st) (yemb t) Q ↔ xcat st ≤ 8 ∧ Cl d 87 [.ref a0, .int a1] (yemb t) (Gk (d + 1) 22 35 [l0, l1, l2] st Q) := gs_call f_22_35 ((xinv_call (i := 35) (n := 762) (ls := [l0, l1, l2]) (kind := 0) (σ := yemb t) (by decide)).trans (xcall_vi [.int a1, .ref a0] rfl rfl (show (2 : Nat) ≤ 2 by decide) rfl ho))
theorem f_22_36 : ft 22 36 = some (66, .ireturn, []) := rfl
theorem s_22_36 {d : Nat} {σ : xS} {ls : xL} {Q : xR → xS → Prop} {x : Int32} : G d 22 36 ls [.int x] σ Q ↔ ybo x ∧ Q (.inl (some (.int x))) σ := gs_retb f_22_36 rfl
theorem f_23_0 : ft 23 0 = some (0, .aload_n 0, []) := rfl
theorem s_23_0 {d : Nat} {σ : xS} {st : List Value} {Q : xR → xS → Prop} {x : Nat} : G d 23 0 [some (.ref x)] st σ Q ↔ G d 23 1 [some (.ref x)] (.ref x :: st) σ Q := gs_go f_23_0 rfl
theorem f_23_1 : ft 23 1 = some (1, .getfield 25, [3, 0, 0, 241]) := rfl
theorem s_23_1 {d : Nat} {t : yT} {st : List Value} {Q : xR → xS → Prop} {l0 : Option Value} {a : Nat} (ho : yisO 3 a) : G d 23 1 [l0] (.ref a :: st) (yemb t) Q ↔ G d 23 2 [l0] (.ref 1 :: st) (yemb t) Q := gs_getf (c := 3) (j := 0) (q := .c 1) f_23_1 ho rfl
theorem f_23_2 : ft 23 2 = some (4, .ldc 80, [1, 5, 778]) := rfl
theorem s_23_2 {d : Nat} {σ : xS} {st : List Value} {Q : xR → xS → Prop} {l0 : Option Value} : G d 23 2 [l0] st σ Q ↔ G d 23 3 [l0] (.ref 1000105 :: st) σ Q := gs_go f_23_2 rfl
theorem f_23_3 : ft 23 3 = some (6, .invokevirtual 82, [85, 2, 0, 779]) := rfl
theorem s_23_3 {d : Nat} {t : yT} {st : List Value} {Q : xR → xS → Prop} {l0 : Option Value} {a0 : Nat} {a1 : Nat} (ho : yisO 6 a0) : G (d + 1) 23 3 [l0] (.ref a1 :: .ref a0 :: st) (yemb t) Q ↔ xcat st ≤ 8 ∧ Cl d 85 [.ref a0, .ref a1] (yemb t) (Gk (d + 1) 23 3 [l0] st Q) := gs_call f_23_3 ((xinv_call (i := 3) (n := 779) (ls := [l0]) (kind := 0) (σ := yemb t) (by decide)).trans (xcall_vi [.ref a1, .ref a0] rfl rfl (show (2 : Nat) ≤ 3 by decide) rfl ho))
theorem f_23_4 : ft 23 4 = some (9, .ifCond .eq 8, [8]) := rfl
theorem s_23_4 {d : Nat} {σ : xS} {st : List Value} {Q : xR → xS → Prop} {l0 : Option Value} {x : Int32} : G d 23 4 [l0] (.int x :: st) σ Q ↔ if x = 0 then G d 23 8 [l0] st σ Q else G d 23 5 [l0] st σ Q := gs_if f_23_4 rfl
theorem f_23_5 : ft 23 5 = some (12, .aload_n 0, []) := rfl
theorem s_23_5 {d : Nat} {σ : xS} {st : List Value} {Q : xR → xS → Prop} {x : Nat} : G d 23 5 [some (.ref x)] st σ Q ↔ G d 23 6 [some (.ref x)] (.ref x :: st) σ Q := gs_go f_23_5 rfl
theorem f_23_6 : ft 23 6 = some (13, .invokevirtual 85, [24, 1, 0, 780]) := rfl
theorem s_23_6 {d : Nat} {t : yT} {st : List Value} {Q : xR → xS → Prop} {l0 : Option Value} {a0 : Nat} (ho : yisO 3 a0) : G (d + 1) 23 6 [l0] (.ref a0 :: st) (yemb t) Q ↔ xcat st ≤ 8 ∧ Cl d 24 [.ref a0] (yemb t) (Gk (d + 1) 23 6 [l0] st Q) := gs_call f_23_6 ((xinv_call (i := 6) (n := 780) (ls := [l0]) (kind := 0) (σ := yemb t) (by decide)).trans (xcall_vi [.ref a0] rfl rfl (show (1 : Nat) ≤ 3 by decide) rfl ho))
theorem f_23_7 : ft 23 7 = some (16, .ireturn, []) := rfl
theorem s_23_7 {d : Nat} {σ : xS} {ls : xL} {Q : xR → xS → Prop} {x : Int32} : G d 23 7 ls [.int x] σ Q ↔ ybo x ∧ Q (.inl (some (.int x))) σ := gs_retb f_23_7 rfl
theorem f_23_8 : ft 23 8 = some (17, .aload_n 0, []) := rfl
theorem s_23_8 {d : Nat} {σ : xS} {st : List Value} {Q : xR → xS → Prop} {x : Nat} : G d 23 8 [some (.ref x)] st σ Q ↔ G d 23 9 [some (.ref x)] (.ref x :: st) σ Q := gs_go f_23_8 rfl
theorem f_23_9 : ft 23 9 = some (18, .getfield 25, [3, 0, 0, 241]) := rfl
theorem s_23_9 {d : Nat} {t : yT} {st : List Value} {Q : xR → xS → Prop} {l0 : Option Value} {a : Nat} (ho : yisO 3 a) : G d 23 9 [l0] (.ref a :: st) (yemb t) Q ↔ G d 23 10 [l0] (.ref 1 :: st) (yemb t) Q := gs_getf (c := 3) (j := 0) (q := .c 1) f_23_9 ho rfl
theorem f_23_10 : ft 23 10 = some (21, .ldc 88, [1, 0, 796]) := rfl
theorem s_23_10 {d : Nat} {σ : xS} {st : List Value} {Q : xR → xS → Prop} {l0 : Option Value} : G d 23 10 [l0] st σ Q ↔ G d 23 11 [l0] (.ref 1000100 :: st) σ Q := gs_go f_23_10 rfl
theorem f_23_11 : ft 23 11 = some (23, .invokevirtual 82, [85, 2, 0, 779]) := rfl
theorem s_23_11 {d : Nat} {t : yT} {st : List Value} {Q : xR → xS → Prop} {l0 : Option Value} {a0 : Nat} {a1 : Nat} (ho : yisO 6 a0) : G (d + 1) 23 11 [l0] (.ref a1 :: .ref a0 :: st) (yemb t) Q ↔ xcat st ≤ 8 ∧ Cl d 85 [.ref a0, .ref a1] (yemb t) (Gk (d + 1) 23 11 [l0] st Q) := gs_call f_23_11 ((xinv_call (i := 11) (n := 779) (ls := [l0]) (kind := 0) (σ := yemb t) (by decide)).trans (xcall_vi [.ref a1, .ref a0] rfl rfl (show (2 : Nat) ≤ 3 by decide) rfl ho))
theorem f_23_12 : ft 23 12 = some (26, .ifCond .eq 8, [16]) := rfl
theorem s_23_12 {d : Nat} {σ : xS} {st : List Value} {Q : xR → xS → Prop} {l0 : Option Value} {x : Int32} : G d 23 12 [l0] (.int x :: st) σ Q ↔ if x = 0 then G d 23 16 [l0] st σ Q else G d 23 13 [l0] st σ Q := gs_if f_23_12 rfl
theorem f_23_13 : ft 23 13 = some (29, .aload_n 0, []) := rfl
theorem s_23_13 {d : Nat} {σ : xS} {st : List Value} {Q : xR → xS → Prop} {x : Nat} : G d 23 13 [some (.ref x)] st σ Q ↔ G d 23 14 [some (.ref x)] (.ref x :: st) σ Q := gs_go f_23_13 rfl
theorem f_23_14 : ft 23 14 = some (30, .invokevirtual 89, [25, 1, 0, 797]) := rfl
theorem s_23_14 {d : Nat} {t : yT} {st : List Value} {Q : xR → xS → Prop} {l0 : Option Value} {a0 : Nat} (ho : yisO 3 a0) : G (d + 1) 23 14 [l0] (.ref a0 :: st) (yemb t) Q ↔ xcat st ≤ 8 ∧ Cl d 25 [.ref a0] (yemb t) (Gk (d + 1) 23 14 [l0] st Q) := gs_call f_23_14 ((xinv_call (i := 14) (n := 797) (ls := [l0]) (kind := 0) (σ := yemb t) (by decide)).trans (xcall_vi [.ref a0] rfl rfl (show (1 : Nat) ≤ 2 by decide) rfl ho))
theorem f_23_15 : ft 23 15 = some (33, .ireturn, []) := rfl
theorem s_23_15 {d : Nat} {σ : xS} {ls : xL} {Q : xR → xS → Prop} {x : Int32} : G d 23 15 ls [.int x] σ Q ↔ ybo x ∧ Q (.inl (some (.int x))) σ := gs_retb f_23_15 rfl
theorem f_23_16 : ft 23 16 = some (34, .aload_n 0, []) := rfl
theorem s_23_16 {d : Nat} {σ : xS} {st : List Value} {Q : xR → xS → Prop} {x : Nat} : G d 23 16 [some (.ref x)] st σ Q ↔ G d 23 17 [some (.ref x)] (.ref x :: st) σ Q := gs_go f_23_16 rfl
theorem f_23_17 : ft 23 17 = some (35, .getfield 25, [3, 0, 0, 241]) := rfl
theorem s_23_17 {d : Nat} {t : yT} {st : List Value} {Q : xR → xS → Prop} {l0 : Option Value} {a : Nat} (ho : yisO 3 a) : G d 23 17 [l0] (.ref a :: st) (yemb t) Q ↔ G d 23 18 [l0] (.ref 1 :: st) (yemb t) Q := gs_getf (c := 3) (j := 0) (q := .c 1) f_23_17 ho rfl
theorem f_23_18 : ft 23 18 = some (38, .ldc 92, [1, 6, 819]) := rfl
theorem s_23_18 {d : Nat} {σ : xS} {st : List Value} {Q : xR → xS → Prop} {l0 : Option Value} : G d 23 18 [l0] st σ Q ↔ G d 23 19 [l0] (.ref 1000106 :: st) σ Q := gs_go f_23_18 rfl
theorem f_23_19 : ft 23 19 = some (40, .invokevirtual 82, [85, 2, 0, 779]) := rfl
theorem s_23_19 {d : Nat} {t : yT} {st : List Value} {Q : xR → xS → Prop} {l0 : Option Value} {a0 : Nat} {a1 : Nat} (ho : yisO 6 a0) : G (d + 1) 23 19 [l0] (.ref a1 :: .ref a0 :: st) (yemb t) Q ↔ xcat st ≤ 8 ∧ Cl d 85 [.ref a0, .ref a1] (yemb t) (Gk (d + 1) 23 19 [l0] st Q) := gs_call f_23_19 ((xinv_call (i := 19) (n := 779) (ls := [l0]) (kind := 0) (σ := yemb t) (by decide)).trans (xcall_vi [.ref a1, .ref a0] rfl rfl (show (2 : Nat) ≤ 3 by decide) rfl ho))
theorem f_23_20 : ft 23 20 = some (43, .ifCond .eq 8, [24]) := rfl
theorem s_23_20 {d : Nat} {σ : xS} {st : List Value} {Q : xR → xS → Prop} {l0 : Option Value} {x : Int32} : G d 23 20 [l0] (.int x :: st) σ Q ↔ if x = 0 then G d 23 24 [l0] st σ Q else G d 23 21 [l0] st σ Q := gs_if f_23_20 rfl
theorem f_23_21 : ft 23 21 = some (46, .aload_n 0, []) := rfl
theorem s_23_21 {d : Nat} {σ : xS} {st : List Value} {Q : xR → xS → Prop} {x : Nat} : G d 23 21 [some (.ref x)] st σ Q ↔ G d 23 22 [some (.ref x)] (.ref x :: st) σ Q := gs_go f_23_21 rfl
theorem f_23_22 : ft 23 22 = some (47, .invokevirtual 94, [27, 1, 0, 820]) := rfl
theorem s_23_22 {d : Nat} {t : yT} {st : List Value} {Q : xR → xS → Prop} {l0 : Option Value} {a0 : Nat} (ho : yisO 3 a0) : G (d + 1) 23 22 [l0] (.ref a0 :: st) (yemb t) Q ↔ xcat st ≤ 8 ∧ Cl d 27 [.ref a0] (yemb t) (Gk (d + 1) 23 22 [l0] st Q) := gs_call f_23_22 ((xinv_call (i := 22) (n := 820) (ls := [l0]) (kind := 0) (σ := yemb t) (by decide)).trans (xcall_vi [.ref a0] rfl rfl (show (1 : Nat) ≤ 6 by decide) rfl ho))
theorem f_23_23 : ft 23 23 = some (50, .ireturn, []) := rfl
theorem s_23_23 {d : Nat} {σ : xS} {ls : xL} {Q : xR → xS → Prop} {x : Int32} : G d 23 23 ls [.int x] σ Q ↔ ybo x ∧ Q (.inl (some (.int x))) σ := gs_retb f_23_23 rfl
theorem f_23_24 : ft 23 24 = some (51, .aload_n 0, []) := rfl
theorem s_23_24 {d : Nat} {σ : xS} {st : List Value} {Q : xR → xS → Prop} {x : Nat} : G d 23 24 [some (.ref x)] st σ Q ↔ G d 23 25 [some (.ref x)] (.ref x :: st) σ Q := gs_go f_23_24 rfl
theorem f_23_25 : ft 23 25 = some (52, .getfield 25, [3, 0, 0, 241]) := rfl
theorem s_23_25 {d : Nat} {t : yT} {st : List Value} {Q : xR → xS → Prop} {l0 : Option Value} {a : Nat} (ho : yisO 3 a) : G d 23 25 [l0] (.ref a :: st) (yemb t) Q ↔ G d 23 26 [l0] (.ref 1 :: st) (yemb t) Q := gs_getf (c := 3) (j := 0) (q := .c 1) f_23_25 ho rfl
theorem f_23_26 : ft 23 26 = some (55, .ldc 97, [1, 7, 828]) := rfl
theorem s_23_26 {d : Nat} {σ : xS} {st : List Value} {Q : xR → xS → Prop} {l0 : Option Value} : G d 23 26 [l0] st σ Q ↔ G d 23 27 [l0] (.ref 1000107 :: st) σ Q := gs_go f_23_26 rfl
theorem f_23_27 : ft 23 27 = some (57, .invokevirtual 82, [85, 2, 0, 779]) := rfl
theorem s_23_27 {d : Nat} {t : yT} {st : List Value} {Q : xR → xS → Prop} {l0 : Option Value} {a0 : Nat} {a1 : Nat} (ho : yisO 6 a0) : G (d + 1) 23 27 [l0] (.ref a1 :: .ref a0 :: st) (yemb t) Q ↔ xcat st ≤ 8 ∧ Cl d 85 [.ref a0, .ref a1] (yemb t) (Gk (d + 1) 23 27 [l0] st Q) := gs_call f_23_27 ((xinv_call (i := 27) (n := 779) (ls := [l0]) (kind := 0) (σ := yemb t) (by decide)).trans (xcall_vi [.ref a1, .ref a0] rfl rfl (show (2 : Nat) ≤ 3 by decide) rfl ho))
theorem f_23_28 : ft 23 28 = some (60, .ifCond .eq 15, [35]) := rfl
theorem s_23_28 {d : Nat} {σ : xS} {st : List Value} {Q : xR → xS → Prop} {l0 : Option Value} {x : Int32} : G d 23 28 [l0] (.int x :: st) σ Q ↔ if x = 0 then G d 23 35 [l0] st σ Q else G d 23 29 [l0] st σ Q := gs_if f_23_28 rfl
theorem f_23_29 : ft 23 29 = some (63, .aload_n 0, []) := rfl
theorem s_23_29 {d : Nat} {σ : xS} {st : List Value} {Q : xR → xS → Prop} {x : Nat} : G d 23 29 [some (.ref x)] st σ Q ↔ G d 23 30 [some (.ref x)] (.ref x :: st) σ Q := gs_go f_23_29 rfl
theorem f_23_30 : ft 23 30 = some (64, .getfield 18, [3, 5, 0, 246]) := rfl
theorem s_23_30 {d : Nat} {t : yT} {st : List Value} {Q : xR → xS → Prop} {l0 : Option Value} {a : Nat} (ho : yisO 3 a) : G d 23 30 [l0] (.ref a :: st) (yemb t) Q ↔ G d 23 31 [l0] (.int (t.A a 5) :: st) (yemb t) Q := gs_getf (c := 3) (j := 5) (q := .i) f_23_30 ho rfl
theorem f_23_31 : ft 23 31 = some (67, .ifCond .ne 8, [35]) := rfl
theorem s_23_31 {d : Nat} {σ : xS} {st : List Value} {Q : xR → xS → Prop} {l0 : Option Value} {x : Int32} : G d 23 31 [l0] (.int x :: st) σ Q ↔ if x ≠ 0 then G d 23 35 [l0] st σ Q else G d 23 32 [l0] st σ Q := gs_if f_23_31 rfl
theorem f_23_32 : ft 23 32 = some (70, .aload_n 0, []) := rfl
theorem s_23_32 {d : Nat} {σ : xS} {st : List Value} {Q : xR → xS → Prop} {x : Nat} : G d 23 32 [some (.ref x)] st σ Q ↔ G d 23 33 [some (.ref x)] (.ref x :: st) σ Q := gs_go f_23_32 rfl
theorem f_23_33 : ft 23 33 = some (71, .invokevirtual 99, [28, 1, 0, 829]) := rfl
theorem s_23_33 {d : Nat} {t : yT} {st : List Value} {Q : xR → xS → Prop} {l0 : Option Value} {a0 : Nat} (ho : yisO 3 a0) : G (d + 1) 23 33 [l0] (.ref a0 :: st) (yemb t) Q ↔ xcat st ≤ 8 ∧ Cl d 28 [.ref a0] (yemb t) (Gk (d + 1) 23 33 [l0] st Q) := gs_call f_23_33 ((xinv_call (i := 33) (n := 829) (ls := [l0]) (kind := 0) (σ := yemb t) (by decide)).trans (xcall_vi [.ref a0] rfl rfl (show (1 : Nat) ≤ 2 by decide) rfl ho))
theorem f_23_34 : ft 23 34 = some (74, .ireturn, []) := rfl
theorem s_23_34 {d : Nat} {σ : xS} {ls : xL} {Q : xR → xS → Prop} {x : Int32} : G d 23 34 ls [.int x] σ Q ↔ ybo x ∧ Q (.inl (some (.int x))) σ := gs_retb f_23_34 rfl
theorem f_23_35 : ft 23 35 = some (75, .aload_n 0, []) := rfl
theorem s_23_35 {d : Nat} {σ : xS} {st : List Value} {Q : xR → xS → Prop} {x : Nat} : G d 23 35 [some (.ref x)] st σ Q ↔ G d 23 36 [some (.ref x)] (.ref x :: st) σ Q := gs_go f_23_35 rfl
theorem f_23_36 : ft 23 36 = some (76, .getfield 25, [3, 0, 0, 241]) := rfl
theorem s_23_36 {d : Nat} {t : yT} {st : List Value} {Q : xR → xS → Prop} {l0 : Option Value} {a : Nat} (ho : yisO 3 a) : G d 23 36 [l0] (.ref a :: st) (yemb t) Q ↔ G d 23 37 [l0] (.ref 1 :: st) (yemb t) Q := gs_getf (c := 3) (j := 0) (q := .c 1) f_23_36 ho rfl
theorem f_23_37 : ft 23 37 = some (79, .ldc 102, [1, 3, 833]) := rfl
theorem s_23_37 {d : Nat} {σ : xS} {st : List Value} {Q : xR → xS → Prop} {l0 : Option Value} : G d 23 37 [l0] st σ Q ↔ G d 23 38 [l0] (.ref 1000103 :: st) σ Q := gs_go f_23_37 rfl
theorem f_23_38 : ft 23 38 = some (81, .invokevirtual 82, [85, 2, 0, 779]) := rfl
theorem s_23_38 {d : Nat} {t : yT} {st : List Value} {Q : xR → xS → Prop} {l0 : Option Value} {a0 : Nat} {a1 : Nat} (ho : yisO 6 a0) : G (d + 1) 23 38 [l0] (.ref a1 :: .ref a0 :: st) (yemb t) Q ↔ xcat st ≤ 8 ∧ Cl d 85 [.ref a0, .ref a1] (yemb t) (Gk (d + 1) 23 38 [l0] st Q) := gs_call f_23_38 ((xinv_call (i := 38) (n := 779) (ls := [l0]) (kind := 0) (σ := yemb t) (by decide)).trans (xcall_vi [.ref a1, .ref a0] rfl rfl (show (2 : Nat) ≤ 3 by decide) rfl ho))
theorem f_23_39 : ft 23 39 = some (84, .ifCond .eq 51, [64]) := rfl
theorem s_23_39 {d : Nat} {σ : xS} {st : List Value} {Q : xR → xS → Prop} {l0 : Option Value} {x : Int32} : G d 23 39 [l0] (.int x :: st) σ Q ↔ if x = 0 then G d 23 64 [l0] st σ Q else G d 23 40 [l0] st σ Q := gs_if f_23_39 rfl
theorem f_23_40 : ft 23 40 = some (87, .aload_n 0, []) := rfl
theorem s_23_40 {d : Nat} {σ : xS} {st : List Value} {Q : xR → xS → Prop} {x : Nat} : G d 23 40 [some (.ref x)] st σ Q ↔ G d 23 41 [some (.ref x)] (.ref x :: st) σ Q := gs_go f_23_40 rfl
theorem f_23_41 : ft 23 41 = some (88, .getfield 22, [3, 6, 0, 247]) := rfl
theorem s_23_41 {d : Nat} {t : yT} {st : List Value} {Q : xR → xS → Prop} {l0 : Option Value} {a : Nat} (ho : yisO 3 a) : G d 23 41 [l0] (.ref a :: st) (yemb t) Q ↔ G d 23 42 [l0] (.int (t.A a 6) :: st) (yemb t) Q := gs_getf (c := 3) (j := 6) (q := .i) f_23_41 ho rfl
theorem f_23_42 : ft 23 42 = some (91, .ifCond .ne 44, [64]) := rfl
theorem s_23_42 {d : Nat} {σ : xS} {st : List Value} {Q : xR → xS → Prop} {l0 : Option Value} {x : Int32} : G d 23 42 [l0] (.int x :: st) σ Q ↔ if x ≠ 0 then G d 23 64 [l0] st σ Q else G d 23 43 [l0] st σ Q := gs_if f_23_42 rfl
theorem f_23_43 : ft 23 43 = some (94, .aload_n 0, []) := rfl
theorem s_23_43 {d : Nat} {σ : xS} {st : List Value} {Q : xR → xS → Prop} {x : Nat} : G d 23 43 [some (.ref x)] st σ Q ↔ G d 23 44 [some (.ref x)] (.ref x :: st) σ Q := gs_go f_23_43 rfl
theorem f_23_44 : ft 23 44 = some (95, .iconst 1, []) := rfl
theorem s_23_44 {d : Nat} {σ : xS} {st : List Value} {Q : xR → xS → Prop} {l0 : Option Value} : G d 23 44 [l0] st σ Q ↔ G d 23 45 [l0] (.int (1) :: st) σ Q := gs_go f_23_44 rfl
theorem f_23_45 : ft 23 45 = some (96, .putfield 22, [3, 6, 0, 247]) := rfl
theorem s_23_45 {d : Nat} {t : yT} {st : List Value} {Q : xR → xS → Prop} {l0 : Option Value} {a : Nat} {x : Int32} (hb : ybo x) (ho : yisO 3 a) : G d 23 45 [l0] (.int x :: .ref a :: st) (yemb t) Q ↔ G d 23 46 [l0] st (yemb (t.s1 a 6 x)) Q := gs_putI (c := 3) (j := 6) f_23_45 (fun _ => rfl) hb (yfb hb) ho
theorem f_23_46 : ft 23 46 = some (99, .aload_n 0, []) := rfl
theorem s_23_46 {d : Nat} {σ : xS} {st : List Value} {Q : xR → xS → Prop} {x : Nat} : G d 23 46 [some (.ref x)] st σ Q ↔ G d 23 47 [some (.ref x)] (.ref x :: st) σ Q := gs_go f_23_46 rfl
theorem f_23_47 : ft 23 47 = some (100, .getfield 25, [3, 0, 0, 241]) := rfl
theorem s_23_47 {d : Nat} {t : yT} {st : List Value} {Q : xR → xS → Prop} {l0 : Option Value} {a : Nat} (ho : yisO 3 a) : G d 23 47 [l0] (.ref a :: st) (yemb t) Q ↔ G d 23 48 [l0] (.ref 1 :: st) (yemb t) Q := gs_getf (c := 3) (j := 0) (q := .c 1) f_23_47 ho rfl
theorem f_23_48 : ft 23 48 = some (103, .invokevirtual 104, [80, 1, 0, 784]) := rfl
theorem s_23_48 {d : Nat} {t : yT} {st : List Value} {Q : xR → xS → Prop} {l0 : Option Value} {a0 : Nat} (ho : yisO 6 a0) : G (d + 1) 23 48 [l0] (.ref a0 :: st) (yemb t) Q ↔ xcat st ≤ 8 ∧ Cl d 80 [.ref a0] (yemb t) (Gk (d + 1) 23 48 [l0] st Q) := gs_call f_23_48 ((xinv_call (i := 48) (n := 784) (ls := [l0]) (kind := 0) (σ := yemb t) (by decide)).trans (xcall_vi [.ref a0] rfl rfl (show (1 : Nat) ≤ 1 by decide) rfl ho))
theorem f_23_49 : ft 23 49 = some (106, .aload_n 0, []) := rfl
theorem s_23_49 {d : Nat} {σ : xS} {st : List Value} {Q : xR → xS → Prop} {x : Nat} : G d 23 49 [some (.ref x)] st σ Q ↔ G d 23 50 [some (.ref x)] (.ref x :: st) σ Q := gs_go f_23_49 rfl
theorem f_23_50 : ft 23 50 = some (107, .getfield 38, [3, 2, 0, 243]) := rfl
theorem s_23_50 {d : Nat} {t : yT} {st : List Value} {Q : xR → xS → Prop} {l0 : Option Value} {a : Nat} (ho : yisO 3 a) : G d 23 50 [l0] (.ref a :: st) (yemb t) Q ↔ G d 23 51 [l0] (.ref 32 :: st) (yemb t) Q := gs_getf (c := 3) (j := 2) (q := .c 32) f_23_50 ho rfl
theorem f_23_51 : ft 23 51 = some (110, .iconst 0, []) := rfl
theorem s_23_51 {d : Nat} {σ : xS} {st : List Value} {Q : xR → xS → Prop} {l0 : Option Value} : G d 23 51 [l0] st σ Q ↔ G d 23 52 [l0] (.int (0) :: st) σ Q := gs_go f_23_51 rfl
theorem f_23_52 : ft 23 52 = some (111, .invokevirtual 107, [68, 2, 3, 834]) := rfl
theorem s_23_52 {d : Nat} {t : yT} {st : List Value} {Q : xR → xS → Prop} {l0 : Option Value} {a0 : Nat} {a1 : Int32} (ho : yisO 5 a0) : G (d + 1) 23 52 [l0] (.int a1 :: .ref a0 :: st) (yemb t) Q ↔ xcat st ≤ 8 ∧ Cl d 68 [.ref a0, .int a1] (yemb t) (Gk (d + 1) 23 52 [l0] st Q) := gs_call f_23_52 ((xinv_call (i := 52) (n := 834) (ls := [l0]) (kind := 3) (σ := yemb t) (by decide)).trans (xcall_vi [.int a1, .ref a0] rfl rfl (show (2 : Nat) ≤ 6 by decide) rfl ho))
theorem f_23_53 : ft 23 53 = some (114, .ifCond .ne 5, [56]) := rfl
theorem s_23_53 {d : Nat} {σ : xS} {st : List Value} {Q : xR → xS → Prop} {l0 : Option Value} {x : Int32} : G d 23 53 [l0] (.int x :: st) σ Q ↔ if x ≠ 0 then G d 23 56 [l0] st σ Q else G d 23 54 [l0] st σ Q := gs_if f_23_53 rfl
theorem f_23_54 : ft 23 54 = some (117, .iconst 0, []) := rfl
theorem s_23_54 {d : Nat} {σ : xS} {st : List Value} {Q : xR → xS → Prop} {l0 : Option Value} : G d 23 54 [l0] st σ Q ↔ G d 23 55 [l0] (.int (0) :: st) σ Q := gs_go f_23_54 rfl
theorem f_23_55 : ft 23 55 = some (118, .ireturn, []) := rfl
theorem s_23_55 {d : Nat} {σ : xS} {ls : xL} {Q : xR → xS → Prop} {x : Int32} : G d 23 55 ls [.int x] σ Q ↔ ybo x ∧ Q (.inl (some (.int x))) σ := gs_retb f_23_55 rfl
theorem f_23_56 : ft 23 56 = some (119, .aload_n 0, []) := rfl
theorem s_23_56 {d : Nat} {σ : xS} {st : List Value} {Q : xR → xS → Prop} {x : Nat} : G d 23 56 [some (.ref x)] st σ Q ↔ G d 23 57 [some (.ref x)] (.ref x :: st) σ Q := gs_go f_23_56 rfl
theorem f_23_57 : ft 23 57 = some (120, .getfield 29, [3, 1, 0, 242]) := rfl
theorem s_23_57 {d : Nat} {t : yT} {st : List Value} {Q : xR → xS → Prop} {l0 : Option Value} {a : Nat} (ho : yisO 3 a) : G d 23 57 [l0] (.ref a :: st) (yemb t) Q ↔ G d 23 58 [l0] (.ref 19 :: st) (yemb t) Q := gs_getf (c := 3) (j := 1) (q := .c 19) f_23_57 ho rfl
theorem f_23_58 : ft 23 58 = some (123, .aload_n 0, []) := rfl
theorem s_23_58 {d : Nat} {σ : xS} {st : List Value} {Q : xR → xS → Prop} {x : Nat} : G d 23 58 [some (.ref x)] st σ Q ↔ G d 23 59 [some (.ref x)] (.ref x :: st) σ Q := gs_go f_23_58 rfl
theorem f_23_59 : ft 23 59 = some (124, .getfield 38, [3, 2, 0, 243]) := rfl
theorem s_23_59 {d : Nat} {t : yT} {st : List Value} {Q : xR → xS → Prop} {l0 : Option Value} {a : Nat} (ho : yisO 3 a) : G d 23 59 [l0] (.ref a :: st) (yemb t) Q ↔ G d 23 60 [l0] (.ref 32 :: st) (yemb t) Q := gs_getf (c := 3) (j := 2) (q := .c 32) f_23_59 ho rfl
theorem f_23_60 : ft 23 60 = some (127, .invokevirtual 111, [67, 1, 0, 863]) := rfl
theorem s_23_60 {d : Nat} {t : yT} {st : List Value} {Q : xR → xS → Prop} {l0 : Option Value} {a0 : Nat} (ho : yisO 5 a0) : G (d + 1) 23 60 [l0] (.ref a0 :: st) (yemb t) Q ↔ xcat st ≤ 8 ∧ Cl d 67 [.ref a0] (yemb t) (Gk (d + 1) 23 60 [l0] st Q) := gs_call f_23_60 ((xinv_call (i := 60) (n := 863) (ls := [l0]) (kind := 0) (σ := yemb t) (by decide)).trans (xcall_vi [.ref a0] rfl rfl (show (1 : Nat) ≤ 1 by decide) rfl ho))
theorem f_23_61 : ft 23 61 = some (130, .putfield 114, [4, 16, 1, 179]) := rfl
theorem s_23_61 {d : Nat} {t : yT} {st : List Value} {Q : xR → xS → Prop} {l0 : Option Value} {a x : Nat} (ho : yisO 4 a) : G d 23 61 [l0] (.ref x :: .ref a :: st) (yemb t) Q ↔ G d 23 62 [l0] st (yemb (t.sR a x)) Q := gs_putR (c := 4) (j := 16) f_23_61 (fun _ => rfl) yum4 rfl rfl ho
theorem f_23_62 : ft 23 62 = some (133, .iconst 1, []) := rfl
theorem s_23_62 {d : Nat} {σ : xS} {st : List Value} {Q : xR → xS → Prop} {l0 : Option Value} : G d 23 62 [l0] st σ Q ↔ G d 23 63 [l0] (.int (1) :: st) σ Q := gs_go f_23_62 rfl
theorem f_23_63 : ft 23 63 = some (134, .ireturn, []) := rfl
theorem s_23_63 {d : Nat} {σ : xS} {ls : xL} {Q : xR → xS → Prop} {x : Int32} : G d 23 63 ls [.int x] σ Q ↔ ybo x ∧ Q (.inl (some (.int x))) σ := gs_retb f_23_63 rfl
theorem f_23_64 : ft 23 64 = some (135, .aload_n 0, []) := rfl
theorem s_23_64 {d : Nat} {σ : xS} {st : List Value} {Q : xR → xS → Prop} {x : Nat} : G d 23 64 [some (.ref x)] st σ Q ↔ G d 23 65 [some (.ref x)] (.ref x :: st) σ Q := gs_go f_23_64 rfl
theorem f_23_65 : ft 23 65 = some (136, .getfield 25, [3, 0, 0, 241]) := rfl
theorem s_23_65 {d : Nat} {t : yT} {st : List Value} {Q : xR → xS → Prop} {l0 : Option Value} {a : Nat} (ho : yisO 3 a) : G d 23 65 [l0] (.ref a :: st) (yemb t) Q ↔ G d 23 66 [l0] (.ref 1 :: st) (yemb t) Q := gs_getf (c := 3) (j := 0) (q := .c 1) f_23_65 ho rfl
theorem f_23_66 : ft 23 66 = some (139, .bipush (-2), []) := rfl
theorem s_23_66 {d : Nat} {σ : xS} {st : List Value} {Q : xR → xS → Prop} {l0 : Option Value} : G d 23 66 [l0] st σ Q ↔ G d 23 67 [l0] (.int (-2) :: st) σ Q := gs_go f_23_66 rfl
theorem f_23_67 : ft 23 67 = some (141, .invokevirtual 117, [90, 2, 0, 807]) := rfl
theorem s_23_67 {d : Nat} {t : yT} {st : List Value} {Q : xR → xS → Prop} {l0 : Option Value} {a0 : Nat} {a1 : Int32} (ho : yisO 6 a0) : G (d + 1) 23 67 [l0] (.int a1 :: .ref a0 :: st) (yemb t) Q ↔ xcat st ≤ 8 ∧ Cl d 90 [.ref a0, .int a1] (yemb t) (Gk (d + 1) 23 67 [l0] st Q) := gs_call f_23_67 ((xinv_call (i := 67) (n := 807) (ls := [l0]) (kind := 0) (σ := yemb t) (by decide)).trans (xcall_vi [.int a1, .ref a0] rfl rfl (show (2 : Nat) ≤ 2 by decide) rfl ho))
theorem f_23_68 : ft 23 68 = some (144, .ireturn, []) := rfl
theorem s_23_68 {d : Nat} {σ : xS} {ls : xL} {Q : xR → xS → Prop} {x : Int32} : G d 23 68 ls [.int x] σ Q ↔ ybo x ∧ Q (.inl (some (.int x))) σ := gs_retb f_23_68 rfl
theorem f_24_0 : ft 24 0 = some (0, .aload_n 0, []) := rfl
theorem s_24_0 {d : Nat} {σ : xS} {st : List Value} {Q : xR → xS → Prop} {l1 l2 : Option Value} {x : Nat} : G d 24 0 [some (.ref x), l1, l2] st σ Q ↔ G d 24 1 [some (.ref x), l1, l2] (.ref x :: st) σ Q := gs_go f_24_0 rfl
theorem f_24_1 : ft 24 1 = some (1, .getfield 25, [3, 0, 0, 241]) := rfl
theorem s_24_1 {d : Nat} {t : yT} {st : List Value} {Q : xR → xS → Prop} {l0 l1 l2 : Option Value} {a : Nat} (ho : yisO 3 a) : G d 24 1 [l0, l1, l2] (.ref a :: st) (yemb t) Q ↔ G d 24 2 [l0, l1, l2] (.ref 1 :: st) (yemb t) Q := gs_getf (c := 3) (j := 0) (q := .c 1) f_24_1 ho rfl
theorem f_24_2 : ft 24 2 = some (4, .invokevirtual 104, [80, 1, 0, 784]) := rfl
theorem s_24_2 {d : Nat} {t : yT} {st : List Value} {Q : xR → xS → Prop} {l0 l1 l2 : Option Value} {a0 : Nat} (ho : yisO 6 a0) : G (d + 1) 24 2 [l0, l1, l2] (.ref a0 :: st) (yemb t) Q ↔ xcat st ≤ 8 ∧ Cl d 80 [.ref a0] (yemb t) (Gk (d + 1) 24 2 [l0, l1, l2] st Q) := gs_call f_24_2 ((xinv_call (i := 2) (n := 784) (ls := [l0, l1, l2]) (kind := 0) (σ := yemb t) (by decide)).trans (xcall_vi [.ref a0] rfl rfl (show (1 : Nat) ≤ 1 by decide) rfl ho))
theorem f_24_3 : ft 24 3 = some (7, .aload_n 0, []) := rfl
theorem s_24_3 {d : Nat} {σ : xS} {st : List Value} {Q : xR → xS → Prop} {l1 l2 : Option Value} {x : Nat} : G d 24 3 [some (.ref x), l1, l2] st σ Q ↔ G d 24 4 [some (.ref x), l1, l2] (.ref x :: st) σ Q := gs_go f_24_3 rfl
theorem f_24_4 : ft 24 4 = some (8, .getfield 25, [3, 0, 0, 241]) := rfl
theorem s_24_4 {d : Nat} {t : yT} {st : List Value} {Q : xR → xS → Prop} {l0 l1 l2 : Option Value} {a : Nat} (ho : yisO 3 a) : G d 24 4 [l0, l1, l2] (.ref a :: st) (yemb t) Q ↔ G d 24 5 [l0, l1, l2] (.ref 1 :: st) (yemb t) Q := gs_getf (c := 3) (j := 0) (q := .c 1) f_24_4 ho rfl
theorem f_24_5 : ft 24 5 = some (11, .iconst 0, []) := rfl
theorem s_24_5 {d : Nat} {σ : xS} {st : List Value} {Q : xR → xS → Prop} {l0 l1 l2 : Option Value} : G d 24 5 [l0, l1, l2] st σ Q ↔ G d 24 6 [l0, l1, l2] (.int (0) :: st) σ Q := gs_go f_24_5 rfl
theorem f_24_6 : ft 24 6 = some (12, .aload_n 0, []) := rfl
theorem s_24_6 {d : Nat} {σ : xS} {st : List Value} {Q : xR → xS → Prop} {l1 l2 : Option Value} {x : Nat} : G d 24 6 [some (.ref x), l1, l2] st σ Q ↔ G d 24 7 [some (.ref x), l1, l2] (.ref x :: st) σ Q := gs_go f_24_6 rfl
theorem f_24_7 : ft 24 7 = some (13, .getfield 29, [3, 1, 0, 242]) := rfl
theorem s_24_7 {d : Nat} {t : yT} {st : List Value} {Q : xR → xS → Prop} {l0 l1 l2 : Option Value} {a : Nat} (ho : yisO 3 a) : G d 24 7 [l0, l1, l2] (.ref a :: st) (yemb t) Q ↔ G d 24 8 [l0, l1, l2] (.ref 19 :: st) (yemb t) Q := gs_getf (c := 3) (j := 1) (q := .c 19) f_24_7 ho rfl
theorem f_24_8 : ft 24 8 = some (16, .getfield 120, [4, 9, 1, 162]) := rfl
theorem s_24_8 {d : Nat} {t : yT} {st : List Value} {Q : xR → xS → Prop} {l0 l1 l2 : Option Value} {a : Nat} (ho : yisO 4 a) : G d 24 8 [l0, l1, l2] (.ref a :: st) (yemb t) Q ↔ G d 24 9 [l0, l1, l2] (.int (t.A a 9) :: st) (yemb t) Q := gs_getf (c := 4) (j := 9) (q := .i) f_24_8 ho rfl
theorem f_24_9 : ft 24 9 = some (19, .iconst 1, []) := rfl
theorem s_24_9 {d : Nat} {σ : xS} {st : List Value} {Q : xR → xS → Prop} {l0 l1 l2 : Option Value} : G d 24 9 [l0, l1, l2] st σ Q ↔ G d 24 10 [l0, l1, l2] (.int (1) :: st) σ Q := gs_go f_24_9 rfl
theorem f_24_10 : ft 24 10 = some (20, .isub, []) := rfl
theorem s_24_10 {d : Nat} {σ : xS} {st : List Value} {Q : xR → xS → Prop} {l0 l1 l2 : Option Value} {x y : Int32} : G d 24 10 [l0, l1, l2] (.int y :: .int x :: st) σ Q ↔ G d 24 11 [l0, l1, l2] (.int (x - y) :: st) σ Q := gs_go f_24_10 rfl
theorem f_24_11 : ft 24 11 = some (21, .invokevirtual 70, [89, 3, 0, 757]) := rfl
theorem s_24_11 {d : Nat} {t : yT} {st : List Value} {Q : xR → xS → Prop} {l0 l1 l2 : Option Value} {a0 : Nat} {a1 : Int32} {a2 : Int32} (ho : yisO 6 a0) : G (d + 1) 24 11 [l0, l1, l2] (.int a2 :: .int a1 :: .ref a0 :: st) (yemb t) Q ↔ xcat st ≤ 8 ∧ Cl d 89 [.ref a0, .int a1, .int a2] (yemb t) (Gk (d + 1) 24 11 [l0, l1, l2] st Q) := gs_call f_24_11 ((xinv_call (i := 11) (n := 757) (ls := [l0, l1, l2]) (kind := 0) (σ := yemb t) (by decide)).trans (xcall_vi [.int a2, .int a1, .ref a0] rfl rfl (show (3 : Nat) ≤ 4 by decide) rfl ho))
theorem f_24_12 : ft 24 12 = some (24, .istore_n 1, []) := rfl
theorem s_24_12 {d : Nat} {σ : xS} {st : List Value} {Q : xR → xS → Prop} {l0 l1 l2 : Option Value} {x : Int32} : G d 24 12 [l0, l1, l2] (.int x :: st) σ Q ↔ G d 24 13 [ykl l0, some (.int x), l2] st σ Q := by
  cases l0 with
  | none => exact gs_go f_24_12 rfl
  | some v => cases v <;> exact gs_go f_24_12 rfl
theorem f_24_13 : ft 24 13 = some (25, .iload_n 1, []) := rfl
theorem s_24_13 {d : Nat} {σ : xS} {st : List Value} {Q : xR → xS → Prop} {l0 l2 : Option Value} {x : Int32} : G d 24 13 [l0, some (.int x), l2] st σ Q ↔ G d 24 14 [l0, some (.int x), l2] (.int x :: st) σ Q := gs_go f_24_13 rfl
theorem f_24_14 : ft 24 14 = some (26, .ifCond .ge 5, [17]) := rfl
theorem s_24_14 {d : Nat} {σ : xS} {st : List Value} {Q : xR → xS → Prop} {l0 l1 l2 : Option Value} {x : Int32} : G d 24 14 [l0, l1, l2] (.int x :: st) σ Q ↔ if 0 ≤ x then G d 24 17 [l0, l1, l2] st σ Q else G d 24 15 [l0, l1, l2] st σ Q := gs_if f_24_14 rfl
theorem f_24_15 : ft 24 15 = some (29, .iconst 0, []) := rfl
theorem s_24_15 {d : Nat} {σ : xS} {st : List Value} {Q : xR → xS → Prop} {l0 l1 l2 : Option Value} : G d 24 15 [l0, l1, l2] st σ Q ↔ G d 24 16 [l0, l1, l2] (.int (0) :: st) σ Q := gs_go f_24_15 rfl
theorem f_24_16 : ft 24 16 = some (30, .ireturn, []) := rfl
theorem s_24_16 {d : Nat} {σ : xS} {ls : xL} {Q : xR → xS → Prop} {x : Int32} : G d 24 16 ls [.int x] σ Q ↔ ybo x ∧ Q (.inl (some (.int x))) σ := gs_retb f_24_16 rfl
theorem f_24_17 : ft 24 17 = some (31, .aload_n 0, []) := rfl
theorem s_24_17 {d : Nat} {σ : xS} {st : List Value} {Q : xR → xS → Prop} {l1 l2 : Option Value} {x : Nat} : G d 24 17 [some (.ref x), l1, l2] st σ Q ↔ G d 24 18 [some (.ref x), l1, l2] (.ref x :: st) σ Q := gs_go f_24_17 rfl
theorem f_24_18 : ft 24 18 = some (32, .getfield 9, [3, 3, 0, 244]) := rfl
theorem s_24_18 {d : Nat} {t : yT} {st : List Value} {Q : xR → xS → Prop} {l0 l1 l2 : Option Value} {a : Nat} (ho : yisO 3 a) : G d 24 18 [l0, l1, l2] (.ref a :: st) (yemb t) Q ↔ G d 24 19 [l0, l1, l2] (.long (t.L a 3) :: st) (yemb t) Q := gs_getf (c := 3) (j := 3) (q := .l) f_24_18 ho rfl
theorem f_24_19 : ft 24 19 = some (35, .iload_n 1, []) := rfl
theorem s_24_19 {d : Nat} {σ : xS} {st : List Value} {Q : xR → xS → Prop} {l0 l2 : Option Value} {x : Int32} : G d 24 19 [l0, some (.int x), l2] st σ Q ↔ G d 24 20 [l0, some (.int x), l2] (.int x :: st) σ Q := gs_go f_24_19 rfl
theorem f_24_20 : ft 24 20 = some (36, .invokestatic 124, [64, 2, 4, 785]) := rfl
theorem s_24_20 {d : Nat} {σ : xS} {st : List Value} {Q : xR → xS → Prop} {l0 l1 l2 : Option Value} {a0 : Int64} {a1 : Int32} : G (d + 1) 24 20 [l0, l1, l2] (.int a1 :: .long a0 :: st) σ Q ↔ xcat st ≤ 8 ∧ Cl d 64 [.long a0, .int a1] σ (Gk (d + 1) 24 20 [l0, l1, l2] st Q) := gs_call f_24_20 ((xinv_call (i := 20) (n := 785) (ls := [l0, l1, l2]) (kind := 4) (σ := σ) (by decide)).trans (xcall_st [.int a1, .long a0] rfl (by decide) (show (3 : Nat) ≤ 3 by decide)))
theorem f_24_21 : ft 24 21 = some (39, .ifCond .eq 13, [27]) := rfl
theorem s_24_21 {d : Nat} {σ : xS} {st : List Value} {Q : xR → xS → Prop} {l0 l1 l2 : Option Value} {x : Int32} : G d 24 21 [l0, l1, l2] (.int x :: st) σ Q ↔ if x = 0 then G d 24 27 [l0, l1, l2] st σ Q else G d 24 22 [l0, l1, l2] st σ Q := gs_if f_24_21 rfl
theorem f_24_22 : ft 24 22 = some (42, .aload_n 0, []) := rfl
theorem s_24_22 {d : Nat} {σ : xS} {st : List Value} {Q : xR → xS → Prop} {l1 l2 : Option Value} {x : Nat} : G d 24 22 [some (.ref x), l1, l2] st σ Q ↔ G d 24 23 [some (.ref x), l1, l2] (.ref x :: st) σ Q := gs_go f_24_22 rfl
theorem f_24_23 : ft 24 23 = some (43, .getfield 25, [3, 0, 0, 241]) := rfl
theorem s_24_23 {d : Nat} {t : yT} {st : List Value} {Q : xR → xS → Prop} {l0 l1 l2 : Option Value} {a : Nat} (ho : yisO 3 a) : G d 24 23 [l0, l1, l2] (.ref a :: st) (yemb t) Q ↔ G d 24 24 [l0, l1, l2] (.ref 1 :: st) (yemb t) Q := gs_getf (c := 3) (j := 0) (q := .c 1) f_24_23 ho rfl
theorem f_24_24 : ft 24 24 = some (46, .bipush (-4), []) := rfl
theorem s_24_24 {d : Nat} {σ : xS} {st : List Value} {Q : xR → xS → Prop} {l0 l1 l2 : Option Value} : G d 24 24 [l0, l1, l2] st σ Q ↔ G d 24 25 [l0, l1, l2] (.int (-4) :: st) σ Q := gs_go f_24_24 rfl
theorem f_24_25 : ft 24 25 = some (48, .invokevirtual 128, [91, 2, 0, 788]) := rfl
theorem s_24_25 {d : Nat} {t : yT} {st : List Value} {Q : xR → xS → Prop} {l0 l1 l2 : Option Value} {a0 : Nat} {a1 : Int32} (ho : yisO 6 a0) : G (d + 1) 24 25 [l0, l1, l2] (.int a1 :: .ref a0 :: st) (yemb t) Q ↔ xcat st ≤ 8 ∧ Cl d 91 [.ref a0, .int a1] (yemb t) (Gk (d + 1) 24 25 [l0, l1, l2] st Q) := gs_call f_24_25 ((xinv_call (i := 25) (n := 788) (ls := [l0, l1, l2]) (kind := 0) (σ := yemb t) (by decide)).trans (xcall_vi [.int a1, .ref a0] rfl rfl (show (2 : Nat) ≤ 2 by decide) rfl ho))
theorem f_24_26 : ft 24 26 = some (51, .ireturn, []) := rfl
theorem s_24_26 {d : Nat} {σ : xS} {ls : xL} {Q : xR → xS → Prop} {x : Int32} : G d 24 26 ls [.int x] σ Q ↔ ybo x ∧ Q (.inl (some (.int x))) σ := gs_retb f_24_26 rfl
theorem f_24_27 : ft 24 27 = some (52, .iload_n 1, []) := rfl
theorem s_24_27 {d : Nat} {σ : xS} {st : List Value} {Q : xR → xS → Prop} {l0 l2 : Option Value} {x : Int32} : G d 24 27 [l0, some (.int x), l2] st σ Q ↔ G d 24 28 [l0, some (.int x), l2] (.int x :: st) σ Q := gs_go f_24_27 rfl
theorem f_24_28 : ft 24 28 = some (53, .ifCond .eq 25, [39]) := rfl
theorem s_24_28 {d : Nat} {σ : xS} {st : List Value} {Q : xR → xS → Prop} {l0 l1 l2 : Option Value} {x : Int32} : G d 24 28 [l0, l1, l2] (.int x :: st) σ Q ↔ if x = 0 then G d 24 39 [l0, l1, l2] st σ Q else G d 24 29 [l0, l1, l2] st σ Q := gs_if f_24_28 rfl
theorem f_24_29 : ft 24 29 = some (56, .aload_n 0, []) := rfl
theorem s_24_29 {d : Nat} {σ : xS} {st : List Value} {Q : xR → xS → Prop} {l1 l2 : Option Value} {x : Nat} : G d 24 29 [some (.ref x), l1, l2] st σ Q ↔ G d 24 30 [some (.ref x), l1, l2] (.ref x :: st) σ Q := gs_go f_24_29 rfl
theorem f_24_30 : ft 24 30 = some (57, .getfield 29, [3, 1, 0, 242]) := rfl
theorem s_24_30 {d : Nat} {t : yT} {st : List Value} {Q : xR → xS → Prop} {l0 l1 l2 : Option Value} {a : Nat} (ho : yisO 3 a) : G d 24 30 [l0, l1, l2] (.ref a :: st) (yemb t) Q ↔ G d 24 31 [l0, l1, l2] (.ref 19 :: st) (yemb t) Q := gs_getf (c := 3) (j := 1) (q := .c 19) f_24_30 ho rfl
theorem f_24_31 : ft 24 31 = some (60, .getfield 131, [4, 12, 1, 170]) := rfl
theorem s_24_31 {d : Nat} {t : yT} {st : List Value} {Q : xR → xS → Prop} {l0 l1 l2 : Option Value} {a : Nat} (ho : yisO 4 a) : G d 24 31 [l0, l1, l2] (.ref a :: st) (yemb t) Q ↔ G d 24 32 [l0, l1, l2] (.int (t.A a 12) :: st) (yemb t) Q := gs_getf (c := 4) (j := 12) (q := .i) f_24_31 ho rfl
theorem f_24_32 : ft 24 32 = some (63, .bipush 6, []) := rfl
theorem s_24_32 {d : Nat} {σ : xS} {st : List Value} {Q : xR → xS → Prop} {l0 l1 l2 : Option Value} : G d 24 32 [l0, l1, l2] st σ Q ↔ G d 24 33 [l0, l1, l2] (.int (6) :: st) σ Q := gs_go f_24_32 rfl
theorem f_24_33 : ft 24 33 = some (65, .if_icmp .lt 13, [39]) := rfl
theorem s_24_33 {d : Nat} {σ : xS} {st : List Value} {Q : xR → xS → Prop} {l0 l1 l2 : Option Value} {x y : Int32} : G d 24 33 [l0, l1, l2] (.int y :: .int x :: st) σ Q ↔ if x < y then G d 24 39 [l0, l1, l2] st σ Q else G d 24 34 [l0, l1, l2] st σ Q := gs_if f_24_33 rfl
theorem f_24_34 : ft 24 34 = some (68, .aload_n 0, []) := rfl
theorem s_24_34 {d : Nat} {σ : xS} {st : List Value} {Q : xR → xS → Prop} {l1 l2 : Option Value} {x : Nat} : G d 24 34 [some (.ref x), l1, l2] st σ Q ↔ G d 24 35 [some (.ref x), l1, l2] (.ref x :: st) σ Q := gs_go f_24_34 rfl
theorem f_24_35 : ft 24 35 = some (69, .getfield 25, [3, 0, 0, 241]) := rfl
theorem s_24_35 {d : Nat} {t : yT} {st : List Value} {Q : xR → xS → Prop} {l0 l1 l2 : Option Value} {a : Nat} (ho : yisO 3 a) : G d 24 35 [l0, l1, l2] (.ref a :: st) (yemb t) Q ↔ G d 24 36 [l0, l1, l2] (.ref 1 :: st) (yemb t) Q := gs_getf (c := 3) (j := 0) (q := .c 1) f_24_35 ho rfl
theorem f_24_36 : ft 24 36 = some (72, .bipush (-5), []) := rfl
theorem s_24_36 {d : Nat} {σ : xS} {st : List Value} {Q : xR → xS → Prop} {l0 l1 l2 : Option Value} : G d 24 36 [l0, l1, l2] st σ Q ↔ G d 24 37 [l0, l1, l2] (.int (-5) :: st) σ Q := gs_go f_24_36 rfl
theorem f_24_37 : ft 24 37 = some (74, .invokevirtual 128, [91, 2, 0, 788]) := rfl
theorem s_24_37 {d : Nat} {t : yT} {st : List Value} {Q : xR → xS → Prop} {l0 l1 l2 : Option Value} {a0 : Nat} {a1 : Int32} (ho : yisO 6 a0) : G (d + 1) 24 37 [l0, l1, l2] (.int a1 :: .ref a0 :: st) (yemb t) Q ↔ xcat st ≤ 8 ∧ Cl d 91 [.ref a0, .int a1] (yemb t) (Gk (d + 1) 24 37 [l0, l1, l2] st Q) := gs_call f_24_37 ((xinv_call (i := 37) (n := 788) (ls := [l0, l1, l2]) (kind := 0) (σ := yemb t) (by decide)).trans (xcall_vi [.int a1, .ref a0] rfl rfl (show (2 : Nat) ≤ 2 by decide) rfl ho))
theorem f_24_38 : ft 24 38 = some (77, .ireturn, []) := rfl
theorem s_24_38 {d : Nat} {σ : xS} {ls : xL} {Q : xR → xS → Prop} {x : Int32} : G d 24 38 ls [.int x] σ Q ↔ ybo x ∧ Q (.inl (some (.int x))) σ := gs_retb f_24_38 rfl
theorem f_24_39 : ft 24 39 = some (78, .aload_n 0, []) := rfl
theorem s_24_39 {d : Nat} {σ : xS} {st : List Value} {Q : xR → xS → Prop} {l1 l2 : Option Value} {x : Nat} : G d 24 39 [some (.ref x), l1, l2] st σ Q ↔ G d 24 40 [some (.ref x), l1, l2] (.ref x :: st) σ Q := gs_go f_24_39 rfl
theorem f_24_40 : ft 24 40 = some (79, .getfield 25, [3, 0, 0, 241]) := rfl
theorem s_24_40 {d : Nat} {t : yT} {st : List Value} {Q : xR → xS → Prop} {l0 l1 l2 : Option Value} {a : Nat} (ho : yisO 3 a) : G d 24 40 [l0, l1, l2] (.ref a :: st) (yemb t) Q ↔ G d 24 41 [l0, l1, l2] (.ref 1 :: st) (yemb t) Q := gs_getf (c := 3) (j := 0) (q := .c 1) f_24_40 ho rfl
theorem f_24_41 : ft 24 41 = some (82, .iconst 0, []) := rfl
theorem s_24_41 {d : Nat} {σ : xS} {st : List Value} {Q : xR → xS → Prop} {l0 l1 l2 : Option Value} : G d 24 41 [l0, l1, l2] st σ Q ↔ G d 24 42 [l0, l1, l2] (.int (0) :: st) σ Q := gs_go f_24_41 rfl
theorem f_24_42 : ft 24 42 = some (83, .sipush 9999, []) := rfl
theorem s_24_42 {d : Nat} {σ : xS} {st : List Value} {Q : xR → xS → Prop} {l0 l1 l2 : Option Value} : G d 24 42 [l0, l1, l2] st σ Q ↔ G d 24 43 [l0, l1, l2] (.int (9999) :: st) σ Q := gs_go f_24_42 rfl
theorem f_24_43 : ft 24 43 = some (86, .invokevirtual 70, [89, 3, 0, 757]) := rfl
theorem s_24_43 {d : Nat} {t : yT} {st : List Value} {Q : xR → xS → Prop} {l0 l1 l2 : Option Value} {a0 : Nat} {a1 : Int32} {a2 : Int32} (ho : yisO 6 a0) : G (d + 1) 24 43 [l0, l1, l2] (.int a2 :: .int a1 :: .ref a0 :: st) (yemb t) Q ↔ xcat st ≤ 8 ∧ Cl d 89 [.ref a0, .int a1, .int a2] (yemb t) (Gk (d + 1) 24 43 [l0, l1, l2] st Q) := gs_call f_24_43 ((xinv_call (i := 43) (n := 757) (ls := [l0, l1, l2]) (kind := 0) (σ := yemb t) (by decide)).trans (xcall_vi [.int a2, .int a1, .ref a0] rfl rfl (show (3 : Nat) ≤ 4 by decide) rfl ho))
theorem f_24_44 : ft 24 44 = some (89, .istore_n 2, []) := rfl
theorem s_24_44 {d : Nat} {σ : xS} {st : List Value} {Q : xR → xS → Prop} {l0 l1 l2 : Option Value} {x : Int32} : G d 24 44 [l0, l1, l2] (.int x :: st) σ Q ↔ G d 24 45 [l0, ykl l1, some (.int x)] st σ Q := by
  cases l1 with
  | none => exact gs_go f_24_44 rfl
  | some v => cases v <;> exact gs_go f_24_44 rfl
theorem f_24_45 : ft 24 45 = some (90, .iload_n 2, []) := rfl
theorem s_24_45 {d : Nat} {σ : xS} {st : List Value} {Q : xR → xS → Prop} {l0 l1 : Option Value} {x : Int32} : G d 24 45 [l0, l1, some (.int x)] st σ Q ↔ G d 24 46 [l0, l1, some (.int x)] (.int x :: st) σ Q := gs_go f_24_45 rfl
theorem f_24_46 : ft 24 46 = some (91, .ifCond .ge 5, [49]) := rfl
theorem s_24_46 {d : Nat} {σ : xS} {st : List Value} {Q : xR → xS → Prop} {l0 l1 l2 : Option Value} {x : Int32} : G d 24 46 [l0, l1, l2] (.int x :: st) σ Q ↔ if 0 ≤ x then G d 24 49 [l0, l1, l2] st σ Q else G d 24 47 [l0, l1, l2] st σ Q := gs_if f_24_46 rfl
theorem f_24_47 : ft 24 47 = some (94, .iconst 0, []) := rfl
theorem s_24_47 {d : Nat} {σ : xS} {st : List Value} {Q : xR → xS → Prop} {l0 l1 l2 : Option Value} : G d 24 47 [l0, l1, l2] st σ Q ↔ G d 24 48 [l0, l1, l2] (.int (0) :: st) σ Q := gs_go f_24_47 rfl
theorem f_24_48 : ft 24 48 = some (95, .ireturn, []) := rfl
theorem s_24_48 {d : Nat} {σ : xS} {ls : xL} {Q : xR → xS → Prop} {x : Int32} : G d 24 48 ls [.int x] σ Q ↔ ybo x ∧ Q (.inl (some (.int x))) σ := gs_retb f_24_48 rfl
theorem f_24_49 : ft 24 49 = some (96, .aload_n 0, []) := rfl
theorem s_24_49 {d : Nat} {σ : xS} {st : List Value} {Q : xR → xS → Prop} {l1 l2 : Option Value} {x : Nat} : G d 24 49 [some (.ref x), l1, l2] st σ Q ↔ G d 24 50 [some (.ref x), l1, l2] (.ref x :: st) σ Q := gs_go f_24_49 rfl
theorem f_24_50 : ft 24 50 = some (97, .dup, []) := rfl
theorem s_24_50 {d : Nat} {σ : xS} {st : List Value} {Q : xR → xS → Prop} {l0 l1 l2 : Option Value} {x : Nat} : G d 24 50 [l0, l1, l2] (.ref x :: st) σ Q ↔ G d 24 51 [l0, l1, l2] (.ref x :: .ref x :: st) σ Q := gs_go f_24_50 rfl
theorem s_24_50i {d : Nat} {σ : xS} {st : List Value} {Q : xR → xS → Prop} {l0 l1 l2 : Option Value} {x : Int32} : G d 24 50 [l0, l1, l2] (.int x :: st) σ Q ↔ G d 24 51 [l0, l1, l2] (.int x :: .int x :: st) σ Q := gs_go f_24_50 rfl
theorem f_24_51 : ft 24 51 = some (98, .getfield 9, [3, 3, 0, 244]) := rfl
theorem s_24_51 {d : Nat} {t : yT} {st : List Value} {Q : xR → xS → Prop} {l0 l1 l2 : Option Value} {a : Nat} (ho : yisO 3 a) : G d 24 51 [l0, l1, l2] (.ref a :: st) (yemb t) Q ↔ G d 24 52 [l0, l1, l2] (.long (t.L a 3) :: st) (yemb t) Q := gs_getf (c := 3) (j := 3) (q := .l) f_24_51 ho rfl
theorem f_24_52 : ft 24 52 = some (101, .lconst 1, []) := rfl
theorem s_24_52 {d : Nat} {σ : xS} {st : List Value} {Q : xR → xS → Prop} {l0 l1 l2 : Option Value} : G d 24 52 [l0, l1, l2] st σ Q ↔ G d 24 53 [l0, l1, l2] (.long (1) :: st) σ Q := gs_go f_24_52 rfl
theorem f_24_53 : ft 24 53 = some (102, .iload_n 1, []) := rfl
theorem s_24_53 {d : Nat} {σ : xS} {st : List Value} {Q : xR → xS → Prop} {l0 l2 : Option Value} {x : Int32} : G d 24 53 [l0, some (.int x), l2] st σ Q ↔ G d 24 54 [l0, some (.int x), l2] (.int x :: st) σ Q := gs_go f_24_53 rfl
theorem f_24_54 : ft 24 54 = some (103, .lshl, []) := rfl
theorem s_24_54 {d : Nat} {σ : xS} {st : List Value} {Q : xR → xS → Prop} {l0 l1 l2 : Option Value} {x : Int64} {y : Int32} : G d 24 54 [l0, l1, l2] (.int y :: .long x :: st) σ Q ↔ G d 24 55 [l0, l1, l2] (.long (x <<< (y.toInt64 &&& 63)) :: st) σ Q := gs_go f_24_54 rfl
theorem f_24_55 : ft 24 55 = some (104, .lor, []) := rfl
theorem s_24_55 {d : Nat} {σ : xS} {st : List Value} {Q : xR → xS → Prop} {l0 l1 l2 : Option Value} {x y : Int64} : G d 24 55 [l0, l1, l2] (.long y :: .long x :: st) σ Q ↔ G d 24 56 [l0, l1, l2] (.long (x ||| y) :: st) σ Q := gs_go f_24_55 rfl
theorem f_24_56 : ft 24 56 = some (105, .putfield 9, [3, 3, 0, 244]) := rfl
theorem s_24_56 {d : Nat} {t : yT} {st : List Value} {Q : xR → xS → Prop} {l0 l1 l2 : Option Value} {a : Nat} {x : Int64} (ho : yisO 3 a) : G d 24 56 [l0, l1, l2] (.long x :: .ref a :: st) (yemb t) Q ↔ G d 24 57 [l0, l1, l2] st (yemb (t.sL a 3 x)) Q := gs_putL (c := 3) (j := 3) f_24_56 (fun _ => rfl) rfl rfl ho
theorem f_24_57 : ft 24 57 = some (108, .aload_n 0, []) := rfl
theorem s_24_57 {d : Nat} {σ : xS} {st : List Value} {Q : xR → xS → Prop} {l1 l2 : Option Value} {x : Nat} : G d 24 57 [some (.ref x), l1, l2] st σ Q ↔ G d 24 58 [some (.ref x), l1, l2] (.ref x :: st) σ Q := gs_go f_24_57 rfl
theorem f_24_58 : ft 24 58 = some (109, .getfield 29, [3, 1, 0, 242]) := rfl
theorem s_24_58 {d : Nat} {t : yT} {st : List Value} {Q : xR → xS → Prop} {l0 l1 l2 : Option Value} {a : Nat} (ho : yisO 3 a) : G d 24 58 [l0, l1, l2] (.ref a :: st) (yemb t) Q ↔ G d 24 59 [l0, l1, l2] (.ref 19 :: st) (yemb t) Q := gs_getf (c := 3) (j := 1) (q := .c 19) f_24_58 ho rfl
theorem f_24_59 : ft 24 59 = some (112, .iload_n 1, []) := rfl
theorem s_24_59 {d : Nat} {σ : xS} {st : List Value} {Q : xR → xS → Prop} {l0 l2 : Option Value} {x : Int32} : G d 24 59 [l0, some (.int x), l2] st σ Q ↔ G d 24 60 [l0, some (.int x), l2] (.int x :: st) σ Q := gs_go f_24_59 rfl
theorem f_24_60 : ft 24 60 = some (113, .iload_n 2, []) := rfl
theorem s_24_60 {d : Nat} {σ : xS} {st : List Value} {Q : xR → xS → Prop} {l0 l1 : Option Value} {x : Int32} : G d 24 60 [l0, l1, some (.int x)] st σ Q ↔ G d 24 61 [l0, l1, some (.int x)] (.int x :: st) σ Q := gs_go f_24_60 rfl
theorem f_24_61 : ft 24 61 = some (114, .invokevirtual 134, [41, 3, 0, 792]) := rfl
theorem s_24_61 {d : Nat} {t : yT} {st : List Value} {Q : xR → xS → Prop} {l0 l1 l2 : Option Value} {a0 : Nat} {a1 : Int32} {a2 : Int32} (ho : yisO 4 a0) : G (d + 1) 24 61 [l0, l1, l2] (.int a2 :: .int a1 :: .ref a0 :: st) (yemb t) Q ↔ xcat st ≤ 8 ∧ Cl d 41 [.ref a0, .int a1, .int a2] (yemb t) (Gk (d + 1) 24 61 [l0, l1, l2] st Q) := gs_call f_24_61 ((xinv_call (i := 61) (n := 792) (ls := [l0, l1, l2]) (kind := 0) (σ := yemb t) (by decide)).trans (xcall_vi [.int a2, .int a1, .ref a0] rfl rfl (show (3 : Nat) ≤ 4 by decide) rfl ho))
theorem f_24_62 : ft 24 62 = some (117, .iconst 1, []) := rfl
theorem s_24_62 {d : Nat} {σ : xS} {st : List Value} {Q : xR → xS → Prop} {l0 l1 l2 : Option Value} : G d 24 62 [l0, l1, l2] st σ Q ↔ G d 24 63 [l0, l1, l2] (.int (1) :: st) σ Q := gs_go f_24_62 rfl
theorem f_24_63 : ft 24 63 = some (118, .ireturn, []) := rfl
theorem s_24_63 {d : Nat} {σ : xS} {ls : xL} {Q : xR → xS → Prop} {x : Int32} : G d 24 63 ls [.int x] σ Q ↔ ybo x ∧ Q (.inl (some (.int x))) σ := gs_retb f_24_63 rfl
theorem f_25_0 : ft 25 0 = some (0, .aload_n 0, []) := rfl
theorem s_25_0 {d : Nat} {σ : xS} {st : List Value} {Q : xR → xS → Prop} {l1 : Option Value} {x : Nat} : G d 25 0 [some (.ref x), l1] st σ Q ↔ G d 25 1 [some (.ref x), l1] (.ref x :: st) σ Q := gs_go f_25_0 rfl
theorem f_25_1 : ft 25 1 = some (1, .getfield 15, [3, 4, 0, 245]) := rfl
theorem s_25_1 {d : Nat} {t : yT} {st : List Value} {Q : xR → xS → Prop} {l0 l1 : Option Value} {a : Nat} (ho : yisO 3 a) : G d 25 1 [l0, l1] (.ref a :: st) (yemb t) Q ↔ G d 25 2 [l0, l1] (.long (t.L a 4) :: st) (yemb t) Q := gs_getf (c := 3) (j := 4) (q := .l) f_25_1 ho rfl
theorem f_25_2 : ft 25 2 = some (4, .invokestatic 137, [216, 1, 1, 801]) := rfl
theorem s_25_2 {d : Nat} {σ : xS} {st : List Value} {Q : xR → xS → Prop} {l0 l1 : Option Value} {a0 : Int64} : G (d + 1) 25 2 [l0, l1] (.long a0 :: st) σ Q ↔ xcat st ≤ 8 ∧ Cl d 216 [.long a0] σ (Gk (d + 1) 25 2 [l0, l1] st Q) := gs_call f_25_2 ((xinv_call (i := 2) (n := 801) (ls := [l0, l1]) (kind := 1) (σ := σ) (by decide)).trans (xcall_st [.long a0] rfl (by decide) (show (2 : Nat) ≤ 2 by decide)))
theorem f_25_3 : ft 25 3 = some (7, .bipush 10, []) := rfl
theorem s_25_3 {d : Nat} {σ : xS} {st : List Value} {Q : xR → xS → Prop} {l0 l1 : Option Value} : G d 25 3 [l0, l1] st σ Q ↔ G d 25 4 [l0, l1] (.int (10) :: st) σ Q := gs_go f_25_3 rfl
theorem f_25_4 : ft 25 4 = some (9, .if_icmp .lt 13, [10]) := rfl
theorem s_25_4 {d : Nat} {σ : xS} {st : List Value} {Q : xR → xS → Prop} {l0 l1 : Option Value} {x y : Int32} : G d 25 4 [l0, l1] (.int y :: .int x :: st) σ Q ↔ if x < y then G d 25 10 [l0, l1] st σ Q else G d 25 5 [l0, l1] st σ Q := gs_if f_25_4 rfl
theorem f_25_5 : ft 25 5 = some (12, .aload_n 0, []) := rfl
theorem s_25_5 {d : Nat} {σ : xS} {st : List Value} {Q : xR → xS → Prop} {l1 : Option Value} {x : Nat} : G d 25 5 [some (.ref x), l1] st σ Q ↔ G d 25 6 [some (.ref x), l1] (.ref x :: st) σ Q := gs_go f_25_5 rfl
theorem f_25_6 : ft 25 6 = some (13, .getfield 25, [3, 0, 0, 241]) := rfl
theorem s_25_6 {d : Nat} {t : yT} {st : List Value} {Q : xR → xS → Prop} {l0 l1 : Option Value} {a : Nat} (ho : yisO 3 a) : G d 25 6 [l0, l1] (.ref a :: st) (yemb t) Q ↔ G d 25 7 [l0, l1] (.ref 1 :: st) (yemb t) Q := gs_getf (c := 3) (j := 0) (q := .c 1) f_25_6 ho rfl
theorem f_25_7 : ft 25 7 = some (16, .bipush (-5), []) := rfl
theorem s_25_7 {d : Nat} {σ : xS} {st : List Value} {Q : xR → xS → Prop} {l0 l1 : Option Value} : G d 25 7 [l0, l1] st σ Q ↔ G d 25 8 [l0, l1] (.int (-5) :: st) σ Q := gs_go f_25_7 rfl
theorem f_25_8 : ft 25 8 = some (18, .invokevirtual 117, [90, 2, 0, 807]) := rfl
theorem s_25_8 {d : Nat} {t : yT} {st : List Value} {Q : xR → xS → Prop} {l0 l1 : Option Value} {a0 : Nat} {a1 : Int32} (ho : yisO 6 a0) : G (d + 1) 25 8 [l0, l1] (.int a1 :: .ref a0 :: st) (yemb t) Q ↔ xcat st ≤ 8 ∧ Cl d 90 [.ref a0, .int a1] (yemb t) (Gk (d + 1) 25 8 [l0, l1] st Q) := gs_call f_25_8 ((xinv_call (i := 8) (n := 807) (ls := [l0, l1]) (kind := 0) (σ := yemb t) (by decide)).trans (xcall_vi [.int a1, .ref a0] rfl rfl (show (2 : Nat) ≤ 2 by decide) rfl ho))
theorem f_25_9 : ft 25 9 = some (21, .ireturn, []) := rfl
theorem s_25_9 {d : Nat} {σ : xS} {ls : xL} {Q : xR → xS → Prop} {x : Int32} : G d 25 9 ls [.int x] σ Q ↔ ybo x ∧ Q (.inl (some (.int x))) σ := gs_retb f_25_9 rfl
theorem f_25_10 : ft 25 10 = some (22, .aload_n 0, []) := rfl
theorem s_25_10 {d : Nat} {σ : xS} {st : List Value} {Q : xR → xS → Prop} {l1 : Option Value} {x : Nat} : G d 25 10 [some (.ref x), l1] st σ Q ↔ G d 25 11 [some (.ref x), l1] (.ref x :: st) σ Q := gs_go f_25_10 rfl
theorem f_25_11 : ft 25 11 = some (23, .getfield 25, [3, 0, 0, 241]) := rfl
theorem s_25_11 {d : Nat} {t : yT} {st : List Value} {Q : xR → xS → Prop} {l0 l1 : Option Value} {a : Nat} (ho : yisO 3 a) : G d 25 11 [l0, l1] (.ref a :: st) (yemb t) Q ↔ G d 25 12 [l0, l1] (.ref 1 :: st) (yemb t) Q := gs_getf (c := 3) (j := 0) (q := .c 1) f_25_11 ho rfl
theorem f_25_12 : ft 25 12 = some (26, .invokevirtual 104, [80, 1, 0, 784]) := rfl
theorem s_25_12 {d : Nat} {t : yT} {st : List Value} {Q : xR → xS → Prop} {l0 l1 : Option Value} {a0 : Nat} (ho : yisO 6 a0) : G (d + 1) 25 12 [l0, l1] (.ref a0 :: st) (yemb t) Q ↔ xcat st ≤ 8 ∧ Cl d 80 [.ref a0] (yemb t) (Gk (d + 1) 25 12 [l0, l1] st Q) := gs_call f_25_12 ((xinv_call (i := 12) (n := 784) (ls := [l0, l1]) (kind := 0) (σ := yemb t) (by decide)).trans (xcall_vi [.ref a0] rfl rfl (show (1 : Nat) ≤ 1 by decide) rfl ho))
theorem f_25_13 : ft 25 13 = some (29, .aload_n 0, []) := rfl
theorem s_25_13 {d : Nat} {σ : xS} {st : List Value} {Q : xR → xS → Prop} {l1 : Option Value} {x : Nat} : G d 25 13 [some (.ref x), l1] st σ Q ↔ G d 25 14 [some (.ref x), l1] (.ref x :: st) σ Q := gs_go f_25_13 rfl
theorem f_25_14 : ft 25 14 = some (30, .getfield 25, [3, 0, 0, 241]) := rfl
theorem s_25_14 {d : Nat} {t : yT} {st : List Value} {Q : xR → xS → Prop} {l0 l1 : Option Value} {a : Nat} (ho : yisO 3 a) : G d 25 14 [l0, l1] (.ref a :: st) (yemb t) Q ↔ G d 25 15 [l0, l1] (.ref 1 :: st) (yemb t) Q := gs_getf (c := 3) (j := 0) (q := .c 1) f_25_14 ho rfl
theorem f_25_15 : ft 25 15 = some (33, .iconst 0, []) := rfl
theorem s_25_15 {d : Nat} {σ : xS} {st : List Value} {Q : xR → xS → Prop} {l0 l1 : Option Value} : G d 25 15 [l0, l1] st σ Q ↔ G d 25 16 [l0, l1] (.int (0) :: st) σ Q := gs_go f_25_15 rfl
theorem f_25_16 : ft 25 16 = some (34, .aload_n 0, []) := rfl
theorem s_25_16 {d : Nat} {σ : xS} {st : List Value} {Q : xR → xS → Prop} {l1 : Option Value} {x : Nat} : G d 25 16 [some (.ref x), l1] st σ Q ↔ G d 25 17 [some (.ref x), l1] (.ref x :: st) σ Q := gs_go f_25_16 rfl
theorem f_25_17 : ft 25 17 = some (35, .getfield 29, [3, 1, 0, 242]) := rfl
theorem s_25_17 {d : Nat} {t : yT} {st : List Value} {Q : xR → xS → Prop} {l0 l1 : Option Value} {a : Nat} (ho : yisO 3 a) : G d 25 17 [l0, l1] (.ref a :: st) (yemb t) Q ↔ G d 25 18 [l0, l1] (.ref 19 :: st) (yemb t) Q := gs_getf (c := 3) (j := 1) (q := .c 19) f_25_17 ho rfl
theorem f_25_18 : ft 25 18 = some (38, .getfield 120, [4, 9, 1, 162]) := rfl
theorem s_25_18 {d : Nat} {t : yT} {st : List Value} {Q : xR → xS → Prop} {l0 l1 : Option Value} {a : Nat} (ho : yisO 4 a) : G d 25 18 [l0, l1] (.ref a :: st) (yemb t) Q ↔ G d 25 19 [l0, l1] (.int (t.A a 9) :: st) (yemb t) Q := gs_getf (c := 4) (j := 9) (q := .i) f_25_18 ho rfl
theorem f_25_19 : ft 25 19 = some (41, .iconst 1, []) := rfl
theorem s_25_19 {d : Nat} {σ : xS} {st : List Value} {Q : xR → xS → Prop} {l0 l1 : Option Value} : G d 25 19 [l0, l1] st σ Q ↔ G d 25 20 [l0, l1] (.int (1) :: st) σ Q := gs_go f_25_19 rfl
theorem f_25_20 : ft 25 20 = some (42, .isub, []) := rfl
theorem s_25_20 {d : Nat} {σ : xS} {st : List Value} {Q : xR → xS → Prop} {l0 l1 : Option Value} {x y : Int32} : G d 25 20 [l0, l1] (.int y :: .int x :: st) σ Q ↔ G d 25 21 [l0, l1] (.int (x - y) :: st) σ Q := gs_go f_25_20 rfl
theorem f_25_21 : ft 25 21 = some (43, .invokevirtual 70, [89, 3, 0, 757]) := rfl
theorem s_25_21 {d : Nat} {t : yT} {st : List Value} {Q : xR → xS → Prop} {l0 l1 : Option Value} {a0 : Nat} {a1 : Int32} {a2 : Int32} (ho : yisO 6 a0) : G (d + 1) 25 21 [l0, l1] (.int a2 :: .int a1 :: .ref a0 :: st) (yemb t) Q ↔ xcat st ≤ 8 ∧ Cl d 89 [.ref a0, .int a1, .int a2] (yemb t) (Gk (d + 1) 25 21 [l0, l1] st Q) := gs_call f_25_21 ((xinv_call (i := 21) (n := 757) (ls := [l0, l1]) (kind := 0) (σ := yemb t) (by decide)).trans (xcall_vi [.int a2, .int a1, .ref a0] rfl rfl (show (3 : Nat) ≤ 4 by decide) rfl ho))
theorem f_25_22 : ft 25 22 = some (46, .istore_n 1, []) := rfl
theorem s_25_22 {d : Nat} {σ : xS} {st : List Value} {Q : xR → xS → Prop} {l0 l1 : Option Value} {x : Int32} : G d 25 22 [l0, l1] (.int x :: st) σ Q ↔ G d 25 23 [ykl l0, some (.int x)] st σ Q := by
  cases l0 with
  | none => exact gs_go f_25_22 rfl
  | some v => cases v <;> exact gs_go f_25_22 rfl
theorem f_25_23 : ft 25 23 = some (47, .iload_n 1, []) := rfl
theorem s_25_23 {d : Nat} {σ : xS} {st : List Value} {Q : xR → xS → Prop} {l0 : Option Value} {x : Int32} : G d 25 23 [l0, some (.int x)] st σ Q ↔ G d 25 24 [l0, some (.int x)] (.int x :: st) σ Q := gs_go f_25_23 rfl
theorem f_25_24 : ft 25 24 = some (48, .ifCond .ge 5, [27]) := rfl
theorem s_25_24 {d : Nat} {σ : xS} {st : List Value} {Q : xR → xS → Prop} {l0 l1 : Option Value} {x : Int32} : G d 25 24 [l0, l1] (.int x :: st) σ Q ↔ if 0 ≤ x then G d 25 27 [l0, l1] st σ Q else G d 25 25 [l0, l1] st σ Q := gs_if f_25_24 rfl
theorem f_25_25 : ft 25 25 = some (51, .iconst 0, []) := rfl
theorem s_25_25 {d : Nat} {σ : xS} {st : List Value} {Q : xR → xS → Prop} {l0 l1 : Option Value} : G d 25 25 [l0, l1] st σ Q ↔ G d 25 26 [l0, l1] (.int (0) :: st) σ Q := gs_go f_25_25 rfl
theorem f_25_26 : ft 25 26 = some (52, .ireturn, []) := rfl
theorem s_25_26 {d : Nat} {σ : xS} {ls : xL} {Q : xR → xS → Prop} {x : Int32} : G d 25 26 ls [.int x] σ Q ↔ ybo x ∧ Q (.inl (some (.int x))) σ := gs_retb f_25_26 rfl
theorem f_25_27 : ft 25 27 = some (53, .aload_n 0, []) := rfl
theorem s_25_27 {d : Nat} {σ : xS} {st : List Value} {Q : xR → xS → Prop} {l1 : Option Value} {x : Nat} : G d 25 27 [some (.ref x), l1] st σ Q ↔ G d 25 28 [some (.ref x), l1] (.ref x :: st) σ Q := gs_go f_25_27 rfl
theorem f_25_28 : ft 25 28 = some (54, .getfield 15, [3, 4, 0, 245]) := rfl
theorem s_25_28 {d : Nat} {t : yT} {st : List Value} {Q : xR → xS → Prop} {l0 l1 : Option Value} {a : Nat} (ho : yisO 3 a) : G d 25 28 [l0, l1] (.ref a :: st) (yemb t) Q ↔ G d 25 29 [l0, l1] (.long (t.L a 4) :: st) (yemb t) Q := gs_getf (c := 3) (j := 4) (q := .l) f_25_28 ho rfl
theorem f_25_29 : ft 25 29 = some (57, .iload_n 1, []) := rfl
theorem s_25_29 {d : Nat} {σ : xS} {st : List Value} {Q : xR → xS → Prop} {l0 : Option Value} {x : Int32} : G d 25 29 [l0, some (.int x)] st σ Q ↔ G d 25 30 [l0, some (.int x)] (.int x :: st) σ Q := gs_go f_25_29 rfl
theorem f_25_30 : ft 25 30 = some (58, .invokestatic 124, [64, 2, 4, 785]) := rfl
theorem s_25_30 {d : Nat} {σ : xS} {st : List Value} {Q : xR → xS → Prop} {l0 l1 : Option Value} {a0 : Int64} {a1 : Int32} : G (d + 1) 25 30 [l0, l1] (.int a1 :: .long a0 :: st) σ Q ↔ xcat st ≤ 8 ∧ Cl d 64 [.long a0, .int a1] σ (Gk (d + 1) 25 30 [l0, l1] st Q) := gs_call f_25_30 ((xinv_call (i := 30) (n := 785) (ls := [l0, l1]) (kind := 4) (σ := σ) (by decide)).trans (xcall_st [.int a1, .long a0] rfl (by decide) (show (3 : Nat) ≤ 3 by decide)))
theorem f_25_31 : ft 25 31 = some (61, .ifCond .eq 13, [37]) := rfl
theorem s_25_31 {d : Nat} {σ : xS} {st : List Value} {Q : xR → xS → Prop} {l0 l1 : Option Value} {x : Int32} : G d 25 31 [l0, l1] (.int x :: st) σ Q ↔ if x = 0 then G d 25 37 [l0, l1] st σ Q else G d 25 32 [l0, l1] st σ Q := gs_if f_25_31 rfl
theorem f_25_32 : ft 25 32 = some (64, .aload_n 0, []) := rfl
theorem s_25_32 {d : Nat} {σ : xS} {st : List Value} {Q : xR → xS → Prop} {l1 : Option Value} {x : Nat} : G d 25 32 [some (.ref x), l1] st σ Q ↔ G d 25 33 [some (.ref x), l1] (.ref x :: st) σ Q := gs_go f_25_32 rfl
theorem f_25_33 : ft 25 33 = some (65, .getfield 25, [3, 0, 0, 241]) := rfl
theorem s_25_33 {d : Nat} {t : yT} {st : List Value} {Q : xR → xS → Prop} {l0 l1 : Option Value} {a : Nat} (ho : yisO 3 a) : G d 25 33 [l0, l1] (.ref a :: st) (yemb t) Q ↔ G d 25 34 [l0, l1] (.ref 1 :: st) (yemb t) Q := gs_getf (c := 3) (j := 0) (q := .c 1) f_25_33 ho rfl
theorem f_25_34 : ft 25 34 = some (68, .bipush (-4), []) := rfl
theorem s_25_34 {d : Nat} {σ : xS} {st : List Value} {Q : xR → xS → Prop} {l0 l1 : Option Value} : G d 25 34 [l0, l1] st σ Q ↔ G d 25 35 [l0, l1] (.int (-4) :: st) σ Q := gs_go f_25_34 rfl
theorem f_25_35 : ft 25 35 = some (70, .invokevirtual 128, [91, 2, 0, 788]) := rfl
theorem s_25_35 {d : Nat} {t : yT} {st : List Value} {Q : xR → xS → Prop} {l0 l1 : Option Value} {a0 : Nat} {a1 : Int32} (ho : yisO 6 a0) : G (d + 1) 25 35 [l0, l1] (.int a1 :: .ref a0 :: st) (yemb t) Q ↔ xcat st ≤ 8 ∧ Cl d 91 [.ref a0, .int a1] (yemb t) (Gk (d + 1) 25 35 [l0, l1] st Q) := gs_call f_25_35 ((xinv_call (i := 35) (n := 788) (ls := [l0, l1]) (kind := 0) (σ := yemb t) (by decide)).trans (xcall_vi [.int a1, .ref a0] rfl rfl (show (2 : Nat) ≤ 2 by decide) rfl ho))
theorem f_25_36 : ft 25 36 = some (73, .ireturn, []) := rfl
theorem s_25_36 {d : Nat} {σ : xS} {ls : xL} {Q : xR → xS → Prop} {x : Int32} : G d 25 36 ls [.int x] σ Q ↔ ybo x ∧ Q (.inl (some (.int x))) σ := gs_retb f_25_36 rfl
theorem f_25_37 : ft 25 37 = some (74, .aload_n 0, []) := rfl
theorem s_25_37 {d : Nat} {σ : xS} {st : List Value} {Q : xR → xS → Prop} {l1 : Option Value} {x : Nat} : G d 25 37 [some (.ref x), l1] st σ Q ↔ G d 25 38 [some (.ref x), l1] (.ref x :: st) σ Q := gs_go f_25_37 rfl
theorem f_25_38 : ft 25 38 = some (75, .dup, []) := rfl
theorem s_25_38 {d : Nat} {σ : xS} {st : List Value} {Q : xR → xS → Prop} {l0 l1 : Option Value} {x : Nat} : G d 25 38 [l0, l1] (.ref x :: st) σ Q ↔ G d 25 39 [l0, l1] (.ref x :: .ref x :: st) σ Q := gs_go f_25_38 rfl
theorem s_25_38i {d : Nat} {σ : xS} {st : List Value} {Q : xR → xS → Prop} {l0 l1 : Option Value} {x : Int32} : G d 25 38 [l0, l1] (.int x :: st) σ Q ↔ G d 25 39 [l0, l1] (.int x :: .int x :: st) σ Q := gs_go f_25_38 rfl
theorem f_25_39 : ft 25 39 = some (76, .getfield 15, [3, 4, 0, 245]) := rfl
theorem s_25_39 {d : Nat} {t : yT} {st : List Value} {Q : xR → xS → Prop} {l0 l1 : Option Value} {a : Nat} (ho : yisO 3 a) : G d 25 39 [l0, l1] (.ref a :: st) (yemb t) Q ↔ G d 25 40 [l0, l1] (.long (t.L a 4) :: st) (yemb t) Q := gs_getf (c := 3) (j := 4) (q := .l) f_25_39 ho rfl
theorem f_25_40 : ft 25 40 = some (79, .lconst 1, []) := rfl
theorem s_25_40 {d : Nat} {σ : xS} {st : List Value} {Q : xR → xS → Prop} {l0 l1 : Option Value} : G d 25 40 [l0, l1] st σ Q ↔ G d 25 41 [l0, l1] (.long (1) :: st) σ Q := gs_go f_25_40 rfl
theorem f_25_41 : ft 25 41 = some (80, .iload_n 1, []) := rfl
theorem s_25_41 {d : Nat} {σ : xS} {st : List Value} {Q : xR → xS → Prop} {l0 : Option Value} {x : Int32} : G d 25 41 [l0, some (.int x)] st σ Q ↔ G d 25 42 [l0, some (.int x)] (.int x :: st) σ Q := gs_go f_25_41 rfl
theorem f_25_42 : ft 25 42 = some (81, .lshl, []) := rfl
theorem s_25_42 {d : Nat} {σ : xS} {st : List Value} {Q : xR → xS → Prop} {l0 l1 : Option Value} {x : Int64} {y : Int32} : G d 25 42 [l0, l1] (.int y :: .long x :: st) σ Q ↔ G d 25 43 [l0, l1] (.long (x <<< (y.toInt64 &&& 63)) :: st) σ Q := gs_go f_25_42 rfl
theorem f_25_43 : ft 25 43 = some (82, .lor, []) := rfl
theorem s_25_43 {d : Nat} {σ : xS} {st : List Value} {Q : xR → xS → Prop} {l0 l1 : Option Value} {x y : Int64} : G d 25 43 [l0, l1] (.long y :: .long x :: st) σ Q ↔ G d 25 44 [l0, l1] (.long (x ||| y) :: st) σ Q := gs_go f_25_43 rfl
theorem f_25_44 : ft 25 44 = some (83, .putfield 15, [3, 4, 0, 245]) := rfl
theorem s_25_44 {d : Nat} {t : yT} {st : List Value} {Q : xR → xS → Prop} {l0 l1 : Option Value} {a : Nat} {x : Int64} (ho : yisO 3 a) : G d 25 44 [l0, l1] (.long x :: .ref a :: st) (yemb t) Q ↔ G d 25 45 [l0, l1] st (yemb (t.sL a 4 x)) Q := gs_putL (c := 3) (j := 4) f_25_44 (fun _ => rfl) rfl rfl ho
theorem f_25_45 : ft 25 45 = some (86, .aload_n 0, []) := rfl
theorem s_25_45 {d : Nat} {σ : xS} {st : List Value} {Q : xR → xS → Prop} {l1 : Option Value} {x : Nat} : G d 25 45 [some (.ref x), l1] st σ Q ↔ G d 25 46 [some (.ref x), l1] (.ref x :: st) σ Q := gs_go f_25_45 rfl
theorem f_25_46 : ft 25 46 = some (87, .iload_n 1, []) := rfl
theorem s_25_46 {d : Nat} {σ : xS} {st : List Value} {Q : xR → xS → Prop} {l0 : Option Value} {x : Int32} : G d 25 46 [l0, some (.int x)] st σ Q ↔ G d 25 47 [l0, some (.int x)] (.int x :: st) σ Q := gs_go f_25_46 rfl
theorem f_25_47 : ft 25 47 = some (88, .invokevirtual 143, [26, 2, 0, 808]) := rfl
theorem s_25_47 {d : Nat} {t : yT} {st : List Value} {Q : xR → xS → Prop} {l0 l1 : Option Value} {a0 : Nat} {a1 : Int32} (ho : yisO 3 a0) : G (d + 1) 25 47 [l0, l1] (.int a1 :: .ref a0 :: st) (yemb t) Q ↔ xcat st ≤ 8 ∧ Cl d 26 [.ref a0, .int a1] (yemb t) (Gk (d + 1) 25 47 [l0, l1] st Q) := gs_call f_25_47 ((xinv_call (i := 47) (n := 808) (ls := [l0, l1]) (kind := 0) (σ := yemb t) (by decide)).trans (xcall_vi [.int a1, .ref a0] rfl rfl (show (2 : Nat) ≤ 3 by decide) rfl ho))
theorem f_25_48 : ft 25 48 = some (91, .ireturn, []) := rfl
theorem s_25_48 {d : Nat} {σ : xS} {ls : xL} {Q : xR → xS → Prop} {x : Int32} : G d 25 48 ls [.int x] σ Q ↔ ybo x ∧ Q (.inl (some (.int x))) σ := gs_retb f_25_48 rfl
theorem f_26_0 : ft 26 0 = some (0, .aload_n 0, []) := rfl
theorem s_26_0 {d : Nat} {σ : xS} {st : List Value} {Q : xR → xS → Prop} {l1 l2 : Option Value} {x : Nat} : G d 26 0 [some (.ref x), l1, l2] st σ Q ↔ G d 26 1 [some (.ref x), l1, l2] (.ref x :: st) σ Q := gs_go f_26_0 rfl
theorem f_26_1 : ft 26 1 = some (1, .getfield 25, [3, 0, 0, 241]) := rfl
theorem s_26_1 {d : Nat} {t : yT} {st : List Value} {Q : xR → xS → Prop} {l0 l1 l2 : Option Value} {a : Nat} (ho : yisO 3 a) : G d 26 1 [l0, l1, l2] (.ref a :: st) (yemb t) Q ↔ G d 26 2 [l0, l1, l2] (.ref 1 :: st) (yemb t) Q := gs_getf (c := 3) (j := 0) (q := .c 1) f_26_1 ho rfl
theorem f_26_2 : ft 26 2 = some (4, .ldc 146, [1, 4, 812]) := rfl
theorem s_26_2 {d : Nat} {σ : xS} {st : List Value} {Q : xR → xS → Prop} {l0 l1 l2 : Option Value} : G d 26 2 [l0, l1, l2] st σ Q ↔ G d 26 3 [l0, l1, l2] (.ref 1000104 :: st) σ Q := gs_go f_26_2 rfl
theorem f_26_3 : ft 26 3 = some (6, .invokevirtual 82, [85, 2, 0, 779]) := rfl
theorem s_26_3 {d : Nat} {t : yT} {st : List Value} {Q : xR → xS → Prop} {l0 l1 l2 : Option Value} {a0 : Nat} {a1 : Nat} (ho : yisO 6 a0) : G (d + 1) 26 3 [l0, l1, l2] (.ref a1 :: .ref a0 :: st) (yemb t) Q ↔ xcat st ≤ 8 ∧ Cl d 85 [.ref a0, .ref a1] (yemb t) (Gk (d + 1) 26 3 [l0, l1, l2] st Q) := gs_call f_26_3 ((xinv_call (i := 3) (n := 779) (ls := [l0, l1, l2]) (kind := 0) (σ := yemb t) (by decide)).trans (xcall_vi [.ref a1, .ref a0] rfl rfl (show (2 : Nat) ≤ 3 by decide) rfl ho))
theorem f_26_4 : ft 26 4 = some (9, .ifCond .ne 15, [10]) := rfl
theorem s_26_4 {d : Nat} {σ : xS} {st : List Value} {Q : xR → xS → Prop} {l0 l1 l2 : Option Value} {x : Int32} : G d 26 4 [l0, l1, l2] (.int x :: st) σ Q ↔ if x ≠ 0 then G d 26 10 [l0, l1, l2] st σ Q else G d 26 5 [l0, l1, l2] st σ Q := gs_if f_26_4 rfl
theorem f_26_5 : ft 26 5 = some (12, .aload_n 0, []) := rfl
theorem s_26_5 {d : Nat} {σ : xS} {st : List Value} {Q : xR → xS → Prop} {l1 l2 : Option Value} {x : Nat} : G d 26 5 [some (.ref x), l1, l2] st σ Q ↔ G d 26 6 [some (.ref x), l1, l2] (.ref x :: st) σ Q := gs_go f_26_5 rfl
theorem f_26_6 : ft 26 6 = some (13, .getfield 25, [3, 0, 0, 241]) := rfl
theorem s_26_6 {d : Nat} {t : yT} {st : List Value} {Q : xR → xS → Prop} {l0 l1 l2 : Option Value} {a : Nat} (ho : yisO 3 a) : G d 26 6 [l0, l1, l2] (.ref a :: st) (yemb t) Q ↔ G d 26 7 [l0, l1, l2] (.ref 1 :: st) (yemb t) Q := gs_getf (c := 3) (j := 0) (q := .c 1) f_26_6 ho rfl
theorem f_26_7 : ft 26 7 = some (16, .ldc 148, [1, 1, 813]) := rfl
theorem s_26_7 {d : Nat} {σ : xS} {st : List Value} {Q : xR → xS → Prop} {l0 l1 l2 : Option Value} : G d 26 7 [l0, l1, l2] st σ Q ↔ G d 26 8 [l0, l1, l2] (.ref 1000101 :: st) σ Q := gs_go f_26_7 rfl
theorem f_26_8 : ft 26 8 = some (18, .invokevirtual 82, [85, 2, 0, 779]) := rfl
theorem s_26_8 {d : Nat} {t : yT} {st : List Value} {Q : xR → xS → Prop} {l0 l1 l2 : Option Value} {a0 : Nat} {a1 : Nat} (ho : yisO 6 a0) : G (d + 1) 26 8 [l0, l1, l2] (.ref a1 :: .ref a0 :: st) (yemb t) Q ↔ xcat st ≤ 8 ∧ Cl d 85 [.ref a0, .ref a1] (yemb t) (Gk (d + 1) 26 8 [l0, l1, l2] st Q) := gs_call f_26_8 ((xinv_call (i := 8) (n := 779) (ls := [l0, l1, l2]) (kind := 0) (σ := yemb t) (by decide)).trans (xcall_vi [.ref a1, .ref a0] rfl rfl (show (2 : Nat) ≤ 3 by decide) rfl ho))
theorem f_26_9 : ft 26 9 = some (21, .ifCond .eq 38, [28]) := rfl
theorem s_26_9 {d : Nat} {σ : xS} {st : List Value} {Q : xR → xS → Prop} {l0 l1 l2 : Option Value} {x : Int32} : G d 26 9 [l0, l1, l2] (.int x :: st) σ Q ↔ if x = 0 then G d 26 28 [l0, l1, l2] st σ Q else G d 26 10 [l0, l1, l2] st σ Q := gs_if f_26_9 rfl
theorem f_26_10 : ft 26 10 = some (24, .aload_n 0, []) := rfl
theorem s_26_10 {d : Nat} {σ : xS} {st : List Value} {Q : xR → xS → Prop} {l1 l2 : Option Value} {x : Nat} : G d 26 10 [some (.ref x), l1, l2] st σ Q ↔ G d 26 11 [some (.ref x), l1, l2] (.ref x :: st) σ Q := gs_go f_26_10 rfl
theorem f_26_11 : ft 26 11 = some (25, .getfield 29, [3, 1, 0, 242]) := rfl
theorem s_26_11 {d : Nat} {t : yT} {st : List Value} {Q : xR → xS → Prop} {l0 l1 l2 : Option Value} {a : Nat} (ho : yisO 3 a) : G d 26 11 [l0, l1, l2] (.ref a :: st) (yemb t) Q ↔ G d 26 12 [l0, l1, l2] (.ref 19 :: st) (yemb t) Q := gs_getf (c := 3) (j := 1) (q := .c 19) f_26_11 ho rfl
theorem f_26_12 : ft 26 12 = some (28, .iload_n 1, []) := rfl
theorem s_26_12 {d : Nat} {σ : xS} {st : List Value} {Q : xR → xS → Prop} {l0 l2 : Option Value} {x : Int32} : G d 26 12 [l0, some (.int x), l2] st σ Q ↔ G d 26 13 [l0, some (.int x), l2] (.int x :: st) σ Q := gs_go f_26_12 rfl
theorem f_26_13 : ft 26 13 = some (29, .aload_n 0, []) := rfl
theorem s_26_13 {d : Nat} {σ : xS} {st : List Value} {Q : xR → xS → Prop} {l1 l2 : Option Value} {x : Nat} : G d 26 13 [some (.ref x), l1, l2] st σ Q ↔ G d 26 14 [some (.ref x), l1, l2] (.ref x :: st) σ Q := gs_go f_26_13 rfl
theorem f_26_14 : ft 26 14 = some (30, .getfield 25, [3, 0, 0, 241]) := rfl
theorem s_26_14 {d : Nat} {t : yT} {st : List Value} {Q : xR → xS → Prop} {l0 l1 l2 : Option Value} {a : Nat} (ho : yisO 3 a) : G d 26 14 [l0, l1, l2] (.ref a :: st) (yemb t) Q ↔ G d 26 15 [l0, l1, l2] (.ref 1 :: st) (yemb t) Q := gs_getf (c := 3) (j := 0) (q := .c 1) f_26_14 ho rfl
theorem f_26_15 : ft 26 15 = some (33, .ldc 146, [1, 4, 812]) := rfl
theorem s_26_15 {d : Nat} {σ : xS} {st : List Value} {Q : xR → xS → Prop} {l0 l1 l2 : Option Value} : G d 26 15 [l0, l1, l2] st σ Q ↔ G d 26 16 [l0, l1, l2] (.ref 1000104 :: st) σ Q := gs_go f_26_15 rfl
theorem f_26_16 : ft 26 16 = some (35, .invokevirtual 82, [85, 2, 0, 779]) := rfl
theorem s_26_16 {d : Nat} {t : yT} {st : List Value} {Q : xR → xS → Prop} {l0 l1 l2 : Option Value} {a0 : Nat} {a1 : Nat} (ho : yisO 6 a0) : G (d + 1) 26 16 [l0, l1, l2] (.ref a1 :: .ref a0 :: st) (yemb t) Q ↔ xcat st ≤ 8 ∧ Cl d 85 [.ref a0, .ref a1] (yemb t) (Gk (d + 1) 26 16 [l0, l1, l2] st Q) := gs_call f_26_16 ((xinv_call (i := 16) (n := 779) (ls := [l0, l1, l2]) (kind := 0) (σ := yemb t) (by decide)).trans (xcall_vi [.ref a1, .ref a0] rfl rfl (show (2 : Nat) ≤ 3 by decide) rfl ho))
theorem f_26_17 : ft 26 17 = some (38, .ifCond .eq 7, [20]) := rfl
theorem s_26_17 {d : Nat} {σ : xS} {st : List Value} {Q : xR → xS → Prop} {l0 l1 l2 : Option Value} {x : Int32} : G d 26 17 [l0, l1, l2] (.int x :: st) σ Q ↔ if x = 0 then G d 26 20 [l0, l1, l2] st σ Q else G d 26 18 [l0, l1, l2] st σ Q := gs_if f_26_17 rfl
theorem f_26_18 : ft 26 18 = some (41, .iconst 1, []) := rfl
theorem s_26_18 {d : Nat} {σ : xS} {st : List Value} {Q : xR → xS → Prop} {l0 l1 l2 : Option Value} : G d 26 18 [l0, l1, l2] st σ Q ↔ G d 26 19 [l0, l1, l2] (.int (1) :: st) σ Q := gs_go f_26_18 rfl
theorem f_26_19 : ft 26 19 = some (42, .goto 4, [21]) := rfl
theorem s_26_19 {d : Nat} {σ : xS} {st : List Value} {Q : xR → xS → Prop} {l0 l1 l2 : Option Value} : G d 26 19 [l0, l1, l2] st σ Q ↔ G d 26 21 [l0, l1, l2] st σ Q := gs_go f_26_19 rfl
theorem f_26_20 : ft 26 20 = some (45, .iconst 2, []) := rfl
theorem s_26_20 {d : Nat} {σ : xS} {st : List Value} {Q : xR → xS → Prop} {l0 l1 l2 : Option Value} : G d 26 20 [l0, l1, l2] st σ Q ↔ G d 26 21 [l0, l1, l2] (.int (2) :: st) σ Q := gs_go f_26_20 rfl
theorem f_26_21 : ft 26 21 = some (46, .iconst 0, []) := rfl
theorem s_26_21 {d : Nat} {σ : xS} {st : List Value} {Q : xR → xS → Prop} {l0 l1 l2 : Option Value} : G d 26 21 [l0, l1, l2] st σ Q ↔ G d 26 22 [l0, l1, l2] (.int (0) :: st) σ Q := gs_go f_26_21 rfl
theorem f_26_22 : ft 26 22 = some (47, .invokevirtual 150, [36, 4, 0, 814]) := rfl
theorem s_26_22 {d : Nat} {t : yT} {st : List Value} {Q : xR → xS → Prop} {l0 l1 l2 : Option Value} {a0 : Nat} {a1 : Int32} {a2 : Int32} {a3 : Int32} (ho : yisO 4 a0) : G (d + 1) 26 22 [l0, l1, l2] (.int a3 :: .int a2 :: .int a1 :: .ref a0 :: st) (yemb t) Q ↔ xcat st ≤ 8 ∧ Cl d 36 [.ref a0, .int a1, .int a2, .int a3] (yemb t) (Gk (d + 1) 26 22 [l0, l1, l2] st Q) := gs_call f_26_22 ((xinv_call (i := 22) (n := 814) (ls := [l0, l1, l2]) (kind := 0) (σ := yemb t) (by decide)).trans (xcall_vi [.int a3, .int a2, .int a1, .ref a0] rfl rfl (show (4 : Nat) ≤ 4 by decide) rfl ho))
theorem f_26_23 : ft 26 23 = some (50, .aload_n 0, []) := rfl
theorem s_26_23 {d : Nat} {σ : xS} {st : List Value} {Q : xR → xS → Prop} {l1 l2 : Option Value} {x : Nat} : G d 26 23 [some (.ref x), l1, l2] st σ Q ↔ G d 26 24 [some (.ref x), l1, l2] (.ref x :: st) σ Q := gs_go f_26_23 rfl
theorem f_26_24 : ft 26 24 = some (51, .getfield 25, [3, 0, 0, 241]) := rfl
theorem s_26_24 {d : Nat} {t : yT} {st : List Value} {Q : xR → xS → Prop} {l0 l1 l2 : Option Value} {a : Nat} (ho : yisO 3 a) : G d 26 24 [l0, l1, l2] (.ref a :: st) (yemb t) Q ↔ G d 26 25 [l0, l1, l2] (.ref 1 :: st) (yemb t) Q := gs_getf (c := 3) (j := 0) (q := .c 1) f_26_24 ho rfl
theorem f_26_25 : ft 26 25 = some (54, .invokevirtual 104, [80, 1, 0, 784]) := rfl
theorem s_26_25 {d : Nat} {t : yT} {st : List Value} {Q : xR → xS → Prop} {l0 l1 l2 : Option Value} {a0 : Nat} (ho : yisO 6 a0) : G (d + 1) 26 25 [l0, l1, l2] (.ref a0 :: st) (yemb t) Q ↔ xcat st ≤ 8 ∧ Cl d 80 [.ref a0] (yemb t) (Gk (d + 1) 26 25 [l0, l1, l2] st Q) := gs_call f_26_25 ((xinv_call (i := 25) (n := 784) (ls := [l0, l1, l2]) (kind := 0) (σ := yemb t) (by decide)).trans (xcall_vi [.ref a0] rfl rfl (show (1 : Nat) ≤ 1 by decide) rfl ho))
theorem f_26_26 : ft 26 26 = some (57, .iconst 1, []) := rfl
theorem s_26_26 {d : Nat} {σ : xS} {st : List Value} {Q : xR → xS → Prop} {l0 l1 l2 : Option Value} : G d 26 26 [l0, l1, l2] st σ Q ↔ G d 26 27 [l0, l1, l2] (.int (1) :: st) σ Q := gs_go f_26_26 rfl
theorem f_26_27 : ft 26 27 = some (58, .ireturn, []) := rfl
theorem s_26_27 {d : Nat} {σ : xS} {ls : xL} {Q : xR → xS → Prop} {x : Int32} : G d 26 27 ls [.int x] σ Q ↔ ybo x ∧ Q (.inl (some (.int x))) σ := gs_retb f_26_27 rfl
theorem f_26_28 : ft 26 28 = some (59, .aload_n 0, []) := rfl
theorem s_26_28 {d : Nat} {σ : xS} {st : List Value} {Q : xR → xS → Prop} {l1 l2 : Option Value} {x : Nat} : G d 26 28 [some (.ref x), l1, l2] st σ Q ↔ G d 26 29 [some (.ref x), l1, l2] (.ref x :: st) σ Q := gs_go f_26_28 rfl
theorem f_26_29 : ft 26 29 = some (60, .getfield 25, [3, 0, 0, 241]) := rfl
theorem s_26_29 {d : Nat} {t : yT} {st : List Value} {Q : xR → xS → Prop} {l0 l1 l2 : Option Value} {a : Nat} (ho : yisO 3 a) : G d 26 29 [l0, l1, l2] (.ref a :: st) (yemb t) Q ↔ G d 26 30 [l0, l1, l2] (.ref 1 :: st) (yemb t) Q := gs_getf (c := 3) (j := 0) (q := .c 1) f_26_29 ho rfl
theorem f_26_30 : ft 26 30 = some (63, .ldc 154, [1, 12, 818]) := rfl
theorem s_26_30 {d : Nat} {σ : xS} {st : List Value} {Q : xR → xS → Prop} {l0 l1 l2 : Option Value} : G d 26 30 [l0, l1, l2] st σ Q ↔ G d 26 31 [l0, l1, l2] (.ref 1000112 :: st) σ Q := gs_go f_26_30 rfl
theorem f_26_31 : ft 26 31 = some (65, .invokevirtual 66, [88, 2, 0, 693]) := rfl
theorem s_26_31 {d : Nat} {t : yT} {st : List Value} {Q : xR → xS → Prop} {l0 l1 l2 : Option Value} {a0 : Nat} {a1 : Nat} (ho : yisO 6 a0) : G (d + 1) 26 31 [l0, l1, l2] (.ref a1 :: .ref a0 :: st) (yemb t) Q ↔ xcat st ≤ 8 ∧ Cl d 88 [.ref a0, .ref a1] (yemb t) (Gk (d + 1) 26 31 [l0, l1, l2] st Q) := gs_call f_26_31 ((xinv_call (i := 31) (n := 693) (ls := [l0, l1, l2]) (kind := 0) (σ := yemb t) (by decide)).trans (xcall_vi [.ref a1, .ref a0] rfl rfl (show (2 : Nat) ≤ 2 by decide) rfl ho))
theorem f_26_32 : ft 26 32 = some (68, .ifCond .ne 5, [35]) := rfl
theorem s_26_32 {d : Nat} {σ : xS} {st : List Value} {Q : xR → xS → Prop} {l0 l1 l2 : Option Value} {x : Int32} : G d 26 32 [l0, l1, l2] (.int x :: st) σ Q ↔ if x ≠ 0 then G d 26 35 [l0, l1, l2] st σ Q else G d 26 33 [l0, l1, l2] st σ Q := gs_if f_26_32 rfl
theorem f_26_33 : ft 26 33 = some (71, .iconst 0, []) := rfl
theorem s_26_33 {d : Nat} {σ : xS} {st : List Value} {Q : xR → xS → Prop} {l0 l1 l2 : Option Value} : G d 26 33 [l0, l1, l2] st σ Q ↔ G d 26 34 [l0, l1, l2] (.int (0) :: st) σ Q := gs_go f_26_33 rfl
theorem f_26_34 : ft 26 34 = some (72, .ireturn, []) := rfl
theorem s_26_34 {d : Nat} {σ : xS} {ls : xL} {Q : xR → xS → Prop} {x : Int32} : G d 26 34 ls [.int x] σ Q ↔ ybo x ∧ Q (.inl (some (.int x))) σ := gs_retb f_26_34 rfl
theorem f_26_35 : ft 26 35 = some (73, .aload_n 0, []) := rfl
theorem s_26_35 {d : Nat} {σ : xS} {st : List Value} {Q : xR → xS → Prop} {l1 l2 : Option Value} {x : Nat} : G d 26 35 [some (.ref x), l1, l2] st σ Q ↔ G d 26 36 [some (.ref x), l1, l2] (.ref x :: st) σ Q := gs_go f_26_35 rfl
theorem f_26_36 : ft 26 36 = some (74, .getfield 25, [3, 0, 0, 241]) := rfl
theorem s_26_36 {d : Nat} {t : yT} {st : List Value} {Q : xR → xS → Prop} {l0 l1 l2 : Option Value} {a : Nat} (ho : yisO 3 a) : G d 26 36 [l0, l1, l2] (.ref a :: st) (yemb t) Q ↔ G d 26 37 [l0, l1, l2] (.ref 1 :: st) (yemb t) Q := gs_getf (c := 3) (j := 0) (q := .c 1) f_26_36 ho rfl
theorem f_26_37 : ft 26 37 = some (77, .iconst 2, []) := rfl
theorem s_26_37 {d : Nat} {σ : xS} {st : List Value} {Q : xR → xS → Prop} {l0 l1 l2 : Option Value} : G d 26 37 [l0, l1, l2] st σ Q ↔ G d 26 38 [l0, l1, l2] (.int (2) :: st) σ Q := gs_go f_26_37 rfl
theorem f_26_38 : ft 26 38 = some (78, .bipush 9, []) := rfl
theorem s_26_38 {d : Nat} {σ : xS} {st : List Value} {Q : xR → xS → Prop} {l0 l1 l2 : Option Value} : G d 26 38 [l0, l1, l2] st σ Q ↔ G d 26 39 [l0, l1, l2] (.int (9) :: st) σ Q := gs_go f_26_38 rfl
theorem f_26_39 : ft 26 39 = some (80, .invokevirtual 70, [89, 3, 0, 757]) := rfl
theorem s_26_39 {d : Nat} {t : yT} {st : List Value} {Q : xR → xS → Prop} {l0 l1 l2 : Option Value} {a0 : Nat} {a1 : Int32} {a2 : Int32} (ho : yisO 6 a0) : G (d + 1) 26 39 [l0, l1, l2] (.int a2 :: .int a1 :: .ref a0 :: st) (yemb t) Q ↔ xcat st ≤ 8 ∧ Cl d 89 [.ref a0, .int a1, .int a2] (yemb t) (Gk (d + 1) 26 39 [l0, l1, l2] st Q) := gs_call f_26_39 ((xinv_call (i := 39) (n := 757) (ls := [l0, l1, l2]) (kind := 0) (σ := yemb t) (by decide)).trans (xcall_vi [.int a2, .int a1, .ref a0] rfl rfl (show (3 : Nat) ≤ 4 by decide) rfl ho))
theorem f_26_40 : ft 26 40 = some (83, .istore_n 2, []) := rfl
theorem s_26_40 {d : Nat} {σ : xS} {st : List Value} {Q : xR → xS → Prop} {l0 l1 l2 : Option Value} {x : Int32} : G d 26 40 [l0, l1, l2] (.int x :: st) σ Q ↔ G d 26 41 [l0, ykl l1, some (.int x)] st σ Q := by
  cases l1 with
  | none => exact gs_go f_26_40 rfl
  | some v => cases v <;> exact gs_go f_26_40 rfl
theorem f_26_41 : ft 26 41 = some (84, .iload_n 2, []) := rfl
theorem s_26_41 {d : Nat} {σ : xS} {st : List Value} {Q : xR → xS → Prop} {l0 l1 : Option Value} {x : Int32} : G d 26 41 [l0, l1, some (.int x)] st σ Q ↔ G d 26 42 [l0, l1, some (.int x)] (.int x :: st) σ Q := gs_go f_26_41 rfl
theorem f_26_42 : ft 26 42 = some (85, .ifCond .ge 5, [45]) := rfl
theorem s_26_42 {d : Nat} {σ : xS} {st : List Value} {Q : xR → xS → Prop} {l0 l1 l2 : Option Value} {x : Int32} : G d 26 42 [l0, l1, l2] (.int x :: st) σ Q ↔ if 0 ≤ x then G d 26 45 [l0, l1, l2] st σ Q else G d 26 43 [l0, l1, l2] st σ Q := gs_if f_26_42 rfl
theorem f_26_43 : ft 26 43 = some (88, .iconst 0, []) := rfl
theorem s_26_43 {d : Nat} {σ : xS} {st : List Value} {Q : xR → xS → Prop} {l0 l1 l2 : Option Value} : G d 26 43 [l0, l1, l2] st σ Q ↔ G d 26 44 [l0, l1, l2] (.int (0) :: st) σ Q := gs_go f_26_43 rfl
theorem f_26_44 : ft 26 44 = some (89, .ireturn, []) := rfl
theorem s_26_44 {d : Nat} {σ : xS} {ls : xL} {Q : xR → xS → Prop} {x : Int32} : G d 26 44 ls [.int x] σ Q ↔ ybo x ∧ Q (.inl (some (.int x))) σ := gs_retb f_26_44 rfl
theorem f_26_45 : ft 26 45 = some (90, .aload_n 0, []) := rfl
theorem s_26_45 {d : Nat} {σ : xS} {st : List Value} {Q : xR → xS → Prop} {l1 l2 : Option Value} {x : Nat} : G d 26 45 [some (.ref x), l1, l2] st σ Q ↔ G d 26 46 [some (.ref x), l1, l2] (.ref x :: st) σ Q := gs_go f_26_45 rfl
theorem f_26_46 : ft 26 46 = some (91, .getfield 29, [3, 1, 0, 242]) := rfl
theorem s_26_46 {d : Nat} {t : yT} {st : List Value} {Q : xR → xS → Prop} {l0 l1 l2 : Option Value} {a : Nat} (ho : yisO 3 a) : G d 26 46 [l0, l1, l2] (.ref a :: st) (yemb t) Q ↔ G d 26 47 [l0, l1, l2] (.ref 19 :: st) (yemb t) Q := gs_getf (c := 3) (j := 1) (q := .c 19) f_26_46 ho rfl
theorem f_26_47 : ft 26 47 = some (94, .iload_n 1, []) := rfl
theorem s_26_47 {d : Nat} {σ : xS} {st : List Value} {Q : xR → xS → Prop} {l0 l2 : Option Value} {x : Int32} : G d 26 47 [l0, some (.int x), l2] st σ Q ↔ G d 26 48 [l0, some (.int x), l2] (.int x :: st) σ Q := gs_go f_26_47 rfl
theorem f_26_48 : ft 26 48 = some (95, .iconst 3, []) := rfl
theorem s_26_48 {d : Nat} {σ : xS} {st : List Value} {Q : xR → xS → Prop} {l0 l1 l2 : Option Value} : G d 26 48 [l0, l1, l2] st σ Q ↔ G d 26 49 [l0, l1, l2] (.int (3) :: st) σ Q := gs_go f_26_48 rfl
theorem f_26_49 : ft 26 49 = some (96, .iload_n 2, []) := rfl
theorem s_26_49 {d : Nat} {σ : xS} {st : List Value} {Q : xR → xS → Prop} {l0 l1 : Option Value} {x : Int32} : G d 26 49 [l0, l1, some (.int x)] st σ Q ↔ G d 26 50 [l0, l1, some (.int x)] (.int x :: st) σ Q := gs_go f_26_49 rfl
theorem f_26_50 : ft 26 50 = some (97, .invokevirtual 150, [36, 4, 0, 814]) := rfl
theorem s_26_50 {d : Nat} {t : yT} {st : List Value} {Q : xR → xS → Prop} {l0 l1 l2 : Option Value} {a0 : Nat} {a1 : Int32} {a2 : Int32} {a3 : Int32} (ho : yisO 4 a0) : G (d + 1) 26 50 [l0, l1, l2] (.int a3 :: .int a2 :: .int a1 :: .ref a0 :: st) (yemb t) Q ↔ xcat st ≤ 8 ∧ Cl d 36 [.ref a0, .int a1, .int a2, .int a3] (yemb t) (Gk (d + 1) 26 50 [l0, l1, l2] st Q) := gs_call f_26_50 ((xinv_call (i := 50) (n := 814) (ls := [l0, l1, l2]) (kind := 0) (σ := yemb t) (by decide)).trans (xcall_vi [.int a3, .int a2, .int a1, .ref a0] rfl rfl (show (4 : Nat) ≤ 4 by decide) rfl ho))
theorem f_26_51 : ft 26 51 = some (100, .iconst 1, []) := rfl
theorem s_26_51 {d : Nat} {σ : xS} {st : List Value} {Q : xR → xS → Prop} {l0 l1 l2 : Option Value} : G d 26 51 [l0, l1, l2] st σ Q ↔ G d 26 52 [l0, l1, l2] (.int (1) :: st) σ Q := gs_go f_26_51 rfl
theorem f_26_52 : ft 26 52 = some (101, .ireturn, []) := rfl
theorem s_26_52 {d : Nat} {σ : xS} {ls : xL} {Q : xR → xS → Prop} {x : Int32} : G d 26 52 ls [.int x] σ Q ↔ ybo x ∧ Q (.inl (some (.int x))) σ := gs_retb f_26_52 rfl
theorem f_27_0 : ft 27 0 = some (0, .aload_n 0, []) := rfl
theorem s_27_0 {d : Nat} {σ : xS} {st : List Value} {Q : xR → xS → Prop} {l1 l2 l3 l4 l5 : Option Value} {x : Nat} : G d 27 0 [some (.ref x), l1, l2, l3, l4, l5] st σ Q ↔ G d 27 1 [some (.ref x), l1, l2, l3, l4, l5] (.ref x :: st) σ Q := gs_go f_27_0 rfl
theorem f_27_1 : ft 27 1 = some (1, .getfield 25, [3, 0, 0, 241]) := rfl
theorem s_27_1 {d : Nat} {t : yT} {st : List Value} {Q : xR → xS → Prop} {l0 l1 l2 l3 l4 l5 : Option Value} {a : Nat} (ho : yisO 3 a) : G d 27 1 [l0, l1, l2, l3, l4, l5] (.ref a :: st) (yemb t) Q ↔ G d 27 2 [l0, l1, l2, l3, l4, l5] (.ref 1 :: st) (yemb t) Q := gs_getf (c := 3) (j := 0) (q := .c 1) f_27_1 ho rfl
theorem f_27_2 : ft 27 2 = some (4, .invokevirtual 104, [80, 1, 0, 784]) := rfl
theorem s_27_2 {d : Nat} {t : yT} {st : List Value} {Q : xR → xS → Prop} {l0 l1 l2 l3 l4 l5 : Option Value} {a0 : Nat} (ho : yisO 6 a0) : G (d + 1) 27 2 [l0, l1, l2, l3, l4, l5] (.ref a0 :: st) (yemb t) Q ↔ xcat st ≤ 8 ∧ Cl d 80 [.ref a0] (yemb t) (Gk (d + 1) 27 2 [l0, l1, l2, l3, l4, l5] st Q) := gs_call f_27_2 ((xinv_call (i := 2) (n := 784) (ls := [l0, l1, l2, l3, l4, l5]) (kind := 0) (σ := yemb t) (by decide)).trans (xcall_vi [.ref a0] rfl rfl (show (1 : Nat) ≤ 1 by decide) rfl ho))
theorem f_27_3 : ft 27 3 = some (7, .aload_n 0, []) := rfl
theorem s_27_3 {d : Nat} {σ : xS} {st : List Value} {Q : xR → xS → Prop} {l1 l2 l3 l4 l5 : Option Value} {x : Nat} : G d 27 3 [some (.ref x), l1, l2, l3, l4, l5] st σ Q ↔ G d 27 4 [some (.ref x), l1, l2, l3, l4, l5] (.ref x :: st) σ Q := gs_go f_27_3 rfl
theorem f_27_4 : ft 27 4 = some (8, .getfield 25, [3, 0, 0, 241]) := rfl
theorem s_27_4 {d : Nat} {t : yT} {st : List Value} {Q : xR → xS → Prop} {l0 l1 l2 l3 l4 l5 : Option Value} {a : Nat} (ho : yisO 3 a) : G d 27 4 [l0, l1, l2, l3, l4, l5] (.ref a :: st) (yemb t) Q ↔ G d 27 5 [l0, l1, l2, l3, l4, l5] (.ref 1 :: st) (yemb t) Q := gs_getf (c := 3) (j := 0) (q := .c 1) f_27_4 ho rfl
theorem f_27_5 : ft 27 5 = some (11, .iconst 0, []) := rfl
theorem s_27_5 {d : Nat} {σ : xS} {st : List Value} {Q : xR → xS → Prop} {l0 l1 l2 l3 l4 l5 : Option Value} : G d 27 5 [l0, l1, l2, l3, l4, l5] st σ Q ↔ G d 27 6 [l0, l1, l2, l3, l4, l5] (.int (0) :: st) σ Q := gs_go f_27_5 rfl
theorem f_27_6 : ft 27 6 = some (12, .aload_n 0, []) := rfl
theorem s_27_6 {d : Nat} {σ : xS} {st : List Value} {Q : xR → xS → Prop} {l1 l2 l3 l4 l5 : Option Value} {x : Nat} : G d 27 6 [some (.ref x), l1, l2, l3, l4, l5] st σ Q ↔ G d 27 7 [some (.ref x), l1, l2, l3, l4, l5] (.ref x :: st) σ Q := gs_go f_27_6 rfl
theorem f_27_7 : ft 27 7 = some (13, .getfield 29, [3, 1, 0, 242]) := rfl
theorem s_27_7 {d : Nat} {t : yT} {st : List Value} {Q : xR → xS → Prop} {l0 l1 l2 l3 l4 l5 : Option Value} {a : Nat} (ho : yisO 3 a) : G d 27 7 [l0, l1, l2, l3, l4, l5] (.ref a :: st) (yemb t) Q ↔ G d 27 8 [l0, l1, l2, l3, l4, l5] (.ref 19 :: st) (yemb t) Q := gs_getf (c := 3) (j := 1) (q := .c 19) f_27_7 ho rfl
theorem f_27_8 : ft 27 8 = some (16, .getfield 120, [4, 9, 1, 162]) := rfl
theorem s_27_8 {d : Nat} {t : yT} {st : List Value} {Q : xR → xS → Prop} {l0 l1 l2 l3 l4 l5 : Option Value} {a : Nat} (ho : yisO 4 a) : G d 27 8 [l0, l1, l2, l3, l4, l5] (.ref a :: st) (yemb t) Q ↔ G d 27 9 [l0, l1, l2, l3, l4, l5] (.int (t.A a 9) :: st) (yemb t) Q := gs_getf (c := 4) (j := 9) (q := .i) f_27_8 ho rfl
theorem f_27_9 : ft 27 9 = some (19, .iconst 1, []) := rfl
theorem s_27_9 {d : Nat} {σ : xS} {st : List Value} {Q : xR → xS → Prop} {l0 l1 l2 l3 l4 l5 : Option Value} : G d 27 9 [l0, l1, l2, l3, l4, l5] st σ Q ↔ G d 27 10 [l0, l1, l2, l3, l4, l5] (.int (1) :: st) σ Q := gs_go f_27_9 rfl
theorem f_27_10 : ft 27 10 = some (20, .isub, []) := rfl
theorem s_27_10 {d : Nat} {σ : xS} {st : List Value} {Q : xR → xS → Prop} {l0 l1 l2 l3 l4 l5 : Option Value} {x y : Int32} : G d 27 10 [l0, l1, l2, l3, l4, l5] (.int y :: .int x :: st) σ Q ↔ G d 27 11 [l0, l1, l2, l3, l4, l5] (.int (x - y) :: st) σ Q := gs_go f_27_10 rfl
theorem f_27_11 : ft 27 11 = some (21, .invokevirtual 70, [89, 3, 0, 757]) := rfl
theorem s_27_11 {d : Nat} {t : yT} {st : List Value} {Q : xR → xS → Prop} {l0 l1 l2 l3 l4 l5 : Option Value} {a0 : Nat} {a1 : Int32} {a2 : Int32} (ho : yisO 6 a0) : G (d + 1) 27 11 [l0, l1, l2, l3, l4, l5] (.int a2 :: .int a1 :: .ref a0 :: st) (yemb t) Q ↔ xcat st ≤ 8 ∧ Cl d 89 [.ref a0, .int a1, .int a2] (yemb t) (Gk (d + 1) 27 11 [l0, l1, l2, l3, l4, l5] st Q) := gs_call f_27_11 ((xinv_call (i := 11) (n := 757) (ls := [l0, l1, l2, l3, l4, l5]) (kind := 0) (σ := yemb t) (by decide)).trans (xcall_vi [.int a2, .int a1, .ref a0] rfl rfl (show (3 : Nat) ≤ 4 by decide) rfl ho))
theorem f_27_12 : ft 27 12 = some (24, .istore_n 1, []) := rfl
theorem s_27_12 {d : Nat} {σ : xS} {st : List Value} {Q : xR → xS → Prop} {l0 l1 l2 l3 l4 l5 : Option Value} {x : Int32} : G d 27 12 [l0, l1, l2, l3, l4, l5] (.int x :: st) σ Q ↔ G d 27 13 [ykl l0, some (.int x), l2, l3, l4, l5] st σ Q := by
  cases l0 with
  | none => exact gs_go f_27_12 rfl
  | some v => cases v <;> exact gs_go f_27_12 rfl
theorem f_27_13 : ft 27 13 = some (25, .iload_n 1, []) := rfl
theorem s_27_13 {d : Nat} {σ : xS} {st : List Value} {Q : xR → xS → Prop} {l0 l2 l3 l4 l5 : Option Value} {x : Int32} : G d 27 13 [l0, some (.int x), l2, l3, l4, l5] st σ Q ↔ G d 27 14 [l0, some (.int x), l2, l3, l4, l5] (.int x :: st) σ Q := gs_go f_27_13 rfl
theorem f_27_14 : ft 27 14 = some (26, .ifCond .ge 5, [17]) := rfl
theorem s_27_14 {d : Nat} {σ : xS} {st : List Value} {Q : xR → xS → Prop} {l0 l1 l2 l3 l4 l5 : Option Value} {x : Int32} : G d 27 14 [l0, l1, l2, l3, l4, l5] (.int x :: st) σ Q ↔ if 0 ≤ x then G d 27 17 [l0, l1, l2, l3, l4, l5] st σ Q else G d 27 15 [l0, l1, l2, l3, l4, l5] st σ Q := gs_if f_27_14 rfl
theorem f_27_15 : ft 27 15 = some (29, .iconst 0, []) := rfl
theorem s_27_15 {d : Nat} {σ : xS} {st : List Value} {Q : xR → xS → Prop} {l0 l1 l2 l3 l4 l5 : Option Value} : G d 27 15 [l0, l1, l2, l3, l4, l5] st σ Q ↔ G d 27 16 [l0, l1, l2, l3, l4, l5] (.int (0) :: st) σ Q := gs_go f_27_15 rfl
theorem f_27_16 : ft 27 16 = some (30, .ireturn, []) := rfl
theorem s_27_16 {d : Nat} {σ : xS} {ls : xL} {Q : xR → xS → Prop} {x : Int32} : G d 27 16 ls [.int x] σ Q ↔ ybo x ∧ Q (.inl (some (.int x))) σ := gs_retb f_27_16 rfl
theorem f_27_17 : ft 27 17 = some (31, .aload_n 0, []) := rfl
theorem s_27_17 {d : Nat} {σ : xS} {st : List Value} {Q : xR → xS → Prop} {l1 l2 l3 l4 l5 : Option Value} {x : Nat} : G d 27 17 [some (.ref x), l1, l2, l3, l4, l5] st σ Q ↔ G d 27 18 [some (.ref x), l1, l2, l3, l4, l5] (.ref x :: st) σ Q := gs_go f_27_17 rfl
theorem f_27_18 : ft 27 18 = some (32, .getfield 25, [3, 0, 0, 241]) := rfl
theorem s_27_18 {d : Nat} {t : yT} {st : List Value} {Q : xR → xS → Prop} {l0 l1 l2 l3 l4 l5 : Option Value} {a : Nat} (ho : yisO 3 a) : G d 27 18 [l0, l1, l2, l3, l4, l5] (.ref a :: st) (yemb t) Q ↔ G d 27 19 [l0, l1, l2, l3, l4, l5] (.ref 1 :: st) (yemb t) Q := gs_getf (c := 3) (j := 0) (q := .c 1) f_27_18 ho rfl
theorem f_27_19 : ft 27 19 = some (35, .iload_n 1, []) := rfl
theorem s_27_19 {d : Nat} {σ : xS} {st : List Value} {Q : xR → xS → Prop} {l0 l2 l3 l4 l5 : Option Value} {x : Int32} : G d 27 19 [l0, some (.int x), l2, l3, l4, l5] st σ Q ↔ G d 27 20 [l0, some (.int x), l2, l3, l4, l5] (.int x :: st) σ Q := gs_go f_27_19 rfl
theorem f_27_20 : ft 27 20 = some (36, .aload_n 0, []) := rfl
theorem s_27_20 {d : Nat} {σ : xS} {st : List Value} {Q : xR → xS → Prop} {l1 l2 l3 l4 l5 : Option Value} {x : Nat} : G d 27 20 [some (.ref x), l1, l2, l3, l4, l5] st σ Q ↔ G d 27 21 [some (.ref x), l1, l2, l3, l4, l5] (.ref x :: st) σ Q := gs_go f_27_20 rfl
theorem f_27_21 : ft 27 21 = some (37, .getfield 29, [3, 1, 0, 242]) := rfl
theorem s_27_21 {d : Nat} {t : yT} {st : List Value} {Q : xR → xS → Prop} {l0 l1 l2 l3 l4 l5 : Option Value} {a : Nat} (ho : yisO 3 a) : G d 27 21 [l0, l1, l2, l3, l4, l5] (.ref a :: st) (yemb t) Q ↔ G d 27 22 [l0, l1, l2, l3, l4, l5] (.ref 19 :: st) (yemb t) Q := gs_getf (c := 3) (j := 1) (q := .c 19) f_27_21 ho rfl
theorem f_27_22 : ft 27 22 = some (40, .getfield 120, [4, 9, 1, 162]) := rfl
theorem s_27_22 {d : Nat} {t : yT} {st : List Value} {Q : xR → xS → Prop} {l0 l1 l2 l3 l4 l5 : Option Value} {a : Nat} (ho : yisO 4 a) : G d 27 22 [l0, l1, l2, l3, l4, l5] (.ref a :: st) (yemb t) Q ↔ G d 27 23 [l0, l1, l2, l3, l4, l5] (.int (t.A a 9) :: st) (yemb t) Q := gs_getf (c := 4) (j := 9) (q := .i) f_27_22 ho rfl
theorem f_27_23 : ft 27 23 = some (43, .iconst 1, []) := rfl
theorem s_27_23 {d : Nat} {σ : xS} {st : List Value} {Q : xR → xS → Prop} {l0 l1 l2 l3 l4 l5 : Option Value} : G d 27 23 [l0, l1, l2, l3, l4, l5] st σ Q ↔ G d 27 24 [l0, l1, l2, l3, l4, l5] (.int (1) :: st) σ Q := gs_go f_27_23 rfl
theorem f_27_24 : ft 27 24 = some (44, .isub, []) := rfl
theorem s_27_24 {d : Nat} {σ : xS} {st : List Value} {Q : xR → xS → Prop} {l0 l1 l2 l3 l4 l5 : Option Value} {x y : Int32} : G d 27 24 [l0, l1, l2, l3, l4, l5] (.int y :: .int x :: st) σ Q ↔ G d 27 25 [l0, l1, l2, l3, l4, l5] (.int (x - y) :: st) σ Q := gs_go f_27_24 rfl
theorem f_27_25 : ft 27 25 = some (45, .invokevirtual 70, [89, 3, 0, 757]) := rfl
theorem s_27_25 {d : Nat} {t : yT} {st : List Value} {Q : xR → xS → Prop} {l0 l1 l2 l3 l4 l5 : Option Value} {a0 : Nat} {a1 : Int32} {a2 : Int32} (ho : yisO 6 a0) : G (d + 1) 27 25 [l0, l1, l2, l3, l4, l5] (.int a2 :: .int a1 :: .ref a0 :: st) (yemb t) Q ↔ xcat st ≤ 8 ∧ Cl d 89 [.ref a0, .int a1, .int a2] (yemb t) (Gk (d + 1) 27 25 [l0, l1, l2, l3, l4, l5] st Q) := gs_call f_27_25 ((xinv_call (i := 25) (n := 757) (ls := [l0, l1, l2, l3, l4, l5]) (kind := 0) (σ := yemb t) (by decide)).trans (xcall_vi [.int a2, .int a1, .ref a0] rfl rfl (show (3 : Nat) ≤ 4 by decide) rfl ho))
theorem f_27_26 : ft 27 26 = some (48, .istore_n 2, []) := rfl
theorem s_27_26 {d : Nat} {σ : xS} {st : List Value} {Q : xR → xS → Prop} {l0 l1 l2 l3 l4 l5 : Option Value} {x : Int32} : G d 27 26 [l0, l1, l2, l3, l4, l5] (.int x :: st) σ Q ↔ G d 27 27 [l0, ykl l1, some (.int x), l3, l4, l5] st σ Q := by
  cases l1 with
  | none => exact gs_go f_27_26 rfl
  | some v => cases v <;> exact gs_go f_27_26 rfl
theorem f_27_27 : ft 27 27 = some (49, .iload_n 2, []) := rfl
theorem s_27_27 {d : Nat} {σ : xS} {st : List Value} {Q : xR → xS → Prop} {l0 l1 l3 l4 l5 : Option Value} {x : Int32} : G d 27 27 [l0, l1, some (.int x), l3, l4, l5] st σ Q ↔ G d 27 28 [l0, l1, some (.int x), l3, l4, l5] (.int x :: st) σ Q := gs_go f_27_27 rfl
theorem f_27_28 : ft 27 28 = some (50, .ifCond .ge 5, [31]) := rfl
theorem s_27_28 {d : Nat} {σ : xS} {st : List Value} {Q : xR → xS → Prop} {l0 l1 l2 l3 l4 l5 : Option Value} {x : Int32} : G d 27 28 [l0, l1, l2, l3, l4, l5] (.int x :: st) σ Q ↔ if 0 ≤ x then G d 27 31 [l0, l1, l2, l3, l4, l5] st σ Q else G d 27 29 [l0, l1, l2, l3, l4, l5] st σ Q := gs_if f_27_28 rfl
theorem f_27_29 : ft 27 29 = some (53, .iconst 0, []) := rfl
theorem s_27_29 {d : Nat} {σ : xS} {st : List Value} {Q : xR → xS → Prop} {l0 l1 l2 l3 l4 l5 : Option Value} : G d 27 29 [l0, l1, l2, l3, l4, l5] st σ Q ↔ G d 27 30 [l0, l1, l2, l3, l4, l5] (.int (0) :: st) σ Q := gs_go f_27_29 rfl
theorem f_27_30 : ft 27 30 = some (54, .ireturn, []) := rfl
theorem s_27_30 {d : Nat} {σ : xS} {ls : xL} {Q : xR → xS → Prop} {x : Int32} : G d 27 30 ls [.int x] σ Q ↔ ybo x ∧ Q (.inl (some (.int x))) σ := gs_retb f_27_30 rfl
theorem f_27_31 : ft 27 31 = some (55, .iconst 0, []) := rfl
theorem s_27_31 {d : Nat} {σ : xS} {st : List Value} {Q : xR → xS → Prop} {l0 l1 l2 l3 l4 l5 : Option Value} : G d 27 31 [l0, l1, l2, l3, l4, l5] st σ Q ↔ G d 27 32 [l0, l1, l2, l3, l4, l5] (.int (0) :: st) σ Q := gs_go f_27_31 rfl
theorem f_27_32 : ft 27 32 = some (56, .istore_n 3, []) := rfl
theorem s_27_32 {d : Nat} {σ : xS} {st : List Value} {Q : xR → xS → Prop} {l0 l1 l2 l3 l4 l5 : Option Value} {x : Int32} : G d 27 32 [l0, l1, l2, l3, l4, l5] (.int x :: st) σ Q ↔ G d 27 33 [l0, l1, ykl l2, some (.int x), l4, l5] st σ Q := by
  cases l2 with
  | none => exact gs_go f_27_32 rfl
  | some v => cases v <;> exact gs_go f_27_32 rfl
theorem f_27_33 : ft 27 33 = some (57, .iconst 0, []) := rfl
theorem s_27_33 {d : Nat} {σ : xS} {st : List Value} {Q : xR → xS → Prop} {l0 l1 l2 l3 l4 l5 : Option Value} : G d 27 33 [l0, l1, l2, l3, l4, l5] st σ Q ↔ G d 27 34 [l0, l1, l2, l3, l4, l5] (.int (0) :: st) σ Q := gs_go f_27_33 rfl
theorem f_27_34 : ft 27 34 = some (58, .istore 4, []) := rfl
theorem s_27_34 {d : Nat} {σ : xS} {st : List Value} {Q : xR → xS → Prop} {l0 l1 l2 l3 l4 l5 : Option Value} {x : Int32} : G d 27 34 [l0, l1, l2, l3, l4, l5] (.int x :: st) σ Q ↔ G d 27 35 [l0, l1, l2, ykl l3, some (.int x), l5] st σ Q := by
  cases l3 with
  | none => exact gs_go f_27_34 rfl
  | some v => cases v <;> exact gs_go f_27_34 rfl
theorem f_27_35 : ft 27 35 = some (60, .iload 4, []) := rfl
theorem s_27_35 {d : Nat} {σ : xS} {st : List Value} {Q : xR → xS → Prop} {l0 l1 l2 l3 l5 : Option Value} {x : Int32} : G d 27 35 [l0, l1, l2, l3, some (.int x), l5] st σ Q ↔ G d 27 36 [l0, l1, l2, l3, some (.int x), l5] (.int x :: st) σ Q := gs_go f_27_35 rfl
theorem f_27_36 : ft 27 36 = some (62, .iconst 3, []) := rfl
theorem s_27_36 {d : Nat} {σ : xS} {st : List Value} {Q : xR → xS → Prop} {l0 l1 l2 l3 l4 l5 : Option Value} : G d 27 36 [l0, l1, l2, l3, l4, l5] st σ Q ↔ G d 27 37 [l0, l1, l2, l3, l4, l5] (.int (3) :: st) σ Q := gs_go f_27_36 rfl
theorem f_27_37 : ft 27 37 = some (63, .if_icmp .ge 37, [56]) := rfl
theorem s_27_37 {d : Nat} {σ : xS} {st : List Value} {Q : xR → xS → Prop} {l0 l1 l2 l3 l4 l5 : Option Value} {x y : Int32} : G d 27 37 [l0, l1, l2, l3, l4, l5] (.int y :: .int x :: st) σ Q ↔ if y ≤ x then G d 27 56 [l0, l1, l2, l3, l4, l5] st σ Q else G d 27 38 [l0, l1, l2, l3, l4, l5] st σ Q := gs_if f_27_37 rfl
theorem f_27_38 : ft 27 38 = some (66, .aload_n 0, []) := rfl
theorem s_27_38 {d : Nat} {σ : xS} {st : List Value} {Q : xR → xS → Prop} {l1 l2 l3 l4 l5 : Option Value} {x : Nat} : G d 27 38 [some (.ref x), l1, l2, l3, l4, l5] st σ Q ↔ G d 27 39 [some (.ref x), l1, l2, l3, l4, l5] (.ref x :: st) σ Q := gs_go f_27_38 rfl
theorem f_27_39 : ft 27 39 = some (67, .getfield 25, [3, 0, 0, 241]) := rfl
theorem s_27_39 {d : Nat} {t : yT} {st : List Value} {Q : xR → xS → Prop} {l0 l1 l2 l3 l4 l5 : Option Value} {a : Nat} (ho : yisO 3 a) : G d 27 39 [l0, l1, l2, l3, l4, l5] (.ref a :: st) (yemb t) Q ↔ G d 27 40 [l0, l1, l2, l3, l4, l5] (.ref 1 :: st) (yemb t) Q := gs_getf (c := 3) (j := 0) (q := .c 1) f_27_39 ho rfl
theorem f_27_40 : ft 27 40 = some (70, .iconst 0, []) := rfl
theorem s_27_40 {d : Nat} {σ : xS} {st : List Value} {Q : xR → xS → Prop} {l0 l1 l2 l3 l4 l5 : Option Value} : G d 27 40 [l0, l1, l2, l3, l4, l5] st σ Q ↔ G d 27 41 [l0, l1, l2, l3, l4, l5] (.int (0) :: st) σ Q := gs_go f_27_40 rfl
theorem f_27_41 : ft 27 41 = some (71, .sipush 255, []) := rfl
theorem s_27_41 {d : Nat} {σ : xS} {st : List Value} {Q : xR → xS → Prop} {l0 l1 l2 l3 l4 l5 : Option Value} : G d 27 41 [l0, l1, l2, l3, l4, l5] st σ Q ↔ G d 27 42 [l0, l1, l2, l3, l4, l5] (.int (255) :: st) σ Q := gs_go f_27_41 rfl
theorem f_27_42 : ft 27 42 = some (74, .invokevirtual 70, [89, 3, 0, 757]) := rfl
theorem s_27_42 {d : Nat} {t : yT} {st : List Value} {Q : xR → xS → Prop} {l0 l1 l2 l3 l4 l5 : Option Value} {a0 : Nat} {a1 : Int32} {a2 : Int32} (ho : yisO 6 a0) : G (d + 1) 27 42 [l0, l1, l2, l3, l4, l5] (.int a2 :: .int a1 :: .ref a0 :: st) (yemb t) Q ↔ xcat st ≤ 8 ∧ Cl d 89 [.ref a0, .int a1, .int a2] (yemb t) (Gk (d + 1) 27 42 [l0, l1, l2, l3, l4, l5] st Q) := gs_call f_27_42 ((xinv_call (i := 42) (n := 757) (ls := [l0, l1, l2, l3, l4, l5]) (kind := 0) (σ := yemb t) (by decide)).trans (xcall_vi [.int a2, .int a1, .ref a0] rfl rfl (show (3 : Nat) ≤ 4 by decide) rfl ho))
theorem f_27_43 : ft 27 43 = some (77, .istore 5, []) := rfl
theorem s_27_43 {d : Nat} {σ : xS} {st : List Value} {Q : xR → xS → Prop} {l0 l1 l2 l3 l4 l5 : Option Value} {x : Int32} : G d 27 43 [l0, l1, l2, l3, l4, l5] (.int x :: st) σ Q ↔ G d 27 44 [l0, l1, l2, l3, ykl l4, some (.int x)] st σ Q := by
  cases l4 with
  | none => exact gs_go f_27_43 rfl
  | some v => cases v <;> exact gs_go f_27_43 rfl
theorem f_27_44 : ft 27 44 = some (79, .iload 5, []) := rfl
theorem s_27_44 {d : Nat} {σ : xS} {st : List Value} {Q : xR → xS → Prop} {l0 l1 l2 l3 l4 : Option Value} {x : Int32} : G d 27 44 [l0, l1, l2, l3, l4, some (.int x)] st σ Q ↔ G d 27 45 [l0, l1, l2, l3, l4, some (.int x)] (.int x :: st) σ Q := gs_go f_27_44 rfl
theorem f_27_45 : ft 27 45 = some (81, .ifCond .ge 5, [48]) := rfl
theorem s_27_45 {d : Nat} {σ : xS} {st : List Value} {Q : xR → xS → Prop} {l0 l1 l2 l3 l4 l5 : Option Value} {x : Int32} : G d 27 45 [l0, l1, l2, l3, l4, l5] (.int x :: st) σ Q ↔ if 0 ≤ x then G d 27 48 [l0, l1, l2, l3, l4, l5] st σ Q else G d 27 46 [l0, l1, l2, l3, l4, l5] st σ Q := gs_if f_27_45 rfl
theorem f_27_46 : ft 27 46 = some (84, .iconst 0, []) := rfl
theorem s_27_46 {d : Nat} {σ : xS} {st : List Value} {Q : xR → xS → Prop} {l0 l1 l2 l3 l4 l5 : Option Value} : G d 27 46 [l0, l1, l2, l3, l4, l5] st σ Q ↔ G d 27 47 [l0, l1, l2, l3, l4, l5] (.int (0) :: st) σ Q := gs_go f_27_46 rfl
theorem f_27_47 : ft 27 47 = some (85, .ireturn, []) := rfl
theorem s_27_47 {d : Nat} {σ : xS} {ls : xL} {Q : xR → xS → Prop} {x : Int32} : G d 27 47 ls [.int x] σ Q ↔ ybo x ∧ Q (.inl (some (.int x))) σ := gs_retb f_27_47 rfl
theorem f_27_48 : ft 27 48 = some (86, .iload_n 3, []) := rfl
theorem s_27_48 {d : Nat} {σ : xS} {st : List Value} {Q : xR → xS → Prop} {l0 l1 l2 l4 l5 : Option Value} {x : Int32} : G d 27 48 [l0, l1, l2, some (.int x), l4, l5] st σ Q ↔ G d 27 49 [l0, l1, l2, some (.int x), l4, l5] (.int x :: st) σ Q := gs_go f_27_48 rfl
theorem f_27_49 : ft 27 49 = some (87, .bipush 8, []) := rfl
theorem s_27_49 {d : Nat} {σ : xS} {st : List Value} {Q : xR → xS → Prop} {l0 l1 l2 l3 l4 l5 : Option Value} : G d 27 49 [l0, l1, l2, l3, l4, l5] st σ Q ↔ G d 27 50 [l0, l1, l2, l3, l4, l5] (.int (8) :: st) σ Q := gs_go f_27_49 rfl
theorem f_27_50 : ft 27 50 = some (89, .ishl, []) := rfl
theorem s_27_50 {d : Nat} {σ : xS} {st : List Value} {Q : xR → xS → Prop} {l0 l1 l2 l3 l4 l5 : Option Value} {x y : Int32} : G d 27 50 [l0, l1, l2, l3, l4, l5] (.int y :: .int x :: st) σ Q ↔ G d 27 51 [l0, l1, l2, l3, l4, l5] (.int (x <<< (y &&& 31)) :: st) σ Q := gs_go f_27_50 rfl
theorem f_27_51 : ft 27 51 = some (90, .iload 5, []) := rfl
theorem s_27_51 {d : Nat} {σ : xS} {st : List Value} {Q : xR → xS → Prop} {l0 l1 l2 l3 l4 : Option Value} {x : Int32} : G d 27 51 [l0, l1, l2, l3, l4, some (.int x)] st σ Q ↔ G d 27 52 [l0, l1, l2, l3, l4, some (.int x)] (.int x :: st) σ Q := gs_go f_27_51 rfl
theorem f_27_52 : ft 27 52 = some (92, .ior, []) := rfl
theorem s_27_52 {d : Nat} {σ : xS} {st : List Value} {Q : xR → xS → Prop} {l0 l1 l2 l3 l4 l5 : Option Value} {x y : Int32} : G d 27 52 [l0, l1, l2, l3, l4, l5] (.int y :: .int x :: st) σ Q ↔ G d 27 53 [l0, l1, l2, l3, l4, l5] (.int (x ||| y) :: st) σ Q := gs_go f_27_52 rfl
theorem f_27_53 : ft 27 53 = some (93, .istore_n 3, []) := rfl
theorem s_27_53 {d : Nat} {σ : xS} {st : List Value} {Q : xR → xS → Prop} {l0 l1 l2 l3 l4 l5 : Option Value} {x : Int32} : G d 27 53 [l0, l1, l2, l3, l4, l5] (.int x :: st) σ Q ↔ G d 27 54 [l0, l1, ykl l2, some (.int x), l4, l5] st σ Q := by
  cases l2 with
  | none => exact gs_go f_27_53 rfl
  | some v => cases v <;> exact gs_go f_27_53 rfl
theorem f_27_54 : ft 27 54 = some (94, .iinc 4 1, []) := rfl
theorem s_27_54 {d : Nat} {σ : xS} {st : List Value} {Q : xR → xS → Prop} {l0 l1 l2 l3 l5 : Option Value} {x : Int32} : G d 27 54 [l0, l1, l2, l3, some (.int x), l5] st σ Q ↔ G d 27 55 [l0, l1, l2, ykl l3, some (.int (x + 1)), l5] st σ Q := by
  cases l3 with
  | none => exact gs_go f_27_54 rfl
  | some v => cases v <;> exact gs_go f_27_54 rfl
theorem f_27_55 : ft 27 55 = some (97, .goto (-37), [35]) := rfl
theorem s_27_55 {d : Nat} {σ : xS} {st : List Value} {Q : xR → xS → Prop} {l0 l1 l2 l3 l4 l5 : Option Value} : G d 27 55 [l0, l1, l2, l3, l4, l5] st σ Q ↔ G d 27 35 [l0, l1, l2, l3, l4, l5] st σ Q := gs_go f_27_55 rfl
theorem f_27_56 : ft 27 56 = some (100, .aload_n 0, []) := rfl
theorem s_27_56 {d : Nat} {σ : xS} {st : List Value} {Q : xR → xS → Prop} {l1 l2 l3 l4 l5 : Option Value} {x : Nat} : G d 27 56 [some (.ref x), l1, l2, l3, l4, l5] st σ Q ↔ G d 27 57 [some (.ref x), l1, l2, l3, l4, l5] (.ref x :: st) σ Q := gs_go f_27_56 rfl
theorem f_27_57 : ft 27 57 = some (101, .getfield 29, [3, 1, 0, 242]) := rfl
theorem s_27_57 {d : Nat} {t : yT} {st : List Value} {Q : xR → xS → Prop} {l0 l1 l2 l3 l4 l5 : Option Value} {a : Nat} (ho : yisO 3 a) : G d 27 57 [l0, l1, l2, l3, l4, l5] (.ref a :: st) (yemb t) Q ↔ G d 27 58 [l0, l1, l2, l3, l4, l5] (.ref 19 :: st) (yemb t) Q := gs_getf (c := 3) (j := 1) (q := .c 19) f_27_57 ho rfl
theorem f_27_58 : ft 27 58 = some (104, .iload_n 1, []) := rfl
theorem s_27_58 {d : Nat} {σ : xS} {st : List Value} {Q : xR → xS → Prop} {l0 l2 l3 l4 l5 : Option Value} {x : Int32} : G d 27 58 [l0, some (.int x), l2, l3, l4, l5] st σ Q ↔ G d 27 59 [l0, some (.int x), l2, l3, l4, l5] (.int x :: st) σ Q := gs_go f_27_58 rfl
theorem f_27_59 : ft 27 59 = some (105, .iload_n 2, []) := rfl
theorem s_27_59 {d : Nat} {σ : xS} {st : List Value} {Q : xR → xS → Prop} {l0 l1 l3 l4 l5 : Option Value} {x : Int32} : G d 27 59 [l0, l1, some (.int x), l3, l4, l5] st σ Q ↔ G d 27 60 [l0, l1, some (.int x), l3, l4, l5] (.int x :: st) σ Q := gs_go f_27_59 rfl
theorem f_27_60 : ft 27 60 = some (106, .iload_n 3, []) := rfl
theorem s_27_60 {d : Nat} {σ : xS} {st : List Value} {Q : xR → xS → Prop} {l0 l1 l2 l4 l5 : Option Value} {x : Int32} : G d 27 60 [l0, l1, l2, some (.int x), l4, l5] st σ Q ↔ G d 27 61 [l0, l1, l2, some (.int x), l4, l5] (.int x :: st) σ Q := gs_go f_27_60 rfl
theorem f_27_61 : ft 27 61 = some (107, .invokevirtual 156, [39, 4, 0, 824]) := rfl
theorem s_27_61 {d : Nat} {t : yT} {st : List Value} {Q : xR → xS → Prop} {l0 l1 l2 l3 l4 l5 : Option Value} {a0 : Nat} {a1 : Int32} {a2 : Int32} {a3 : Int32} (ho : yisO 4 a0) : G (d + 1) 27 61 [l0, l1, l2, l3, l4, l5] (.int a3 :: .int a2 :: .int a1 :: .ref a0 :: st) (yemb t) Q ↔ xcat st ≤ 8 ∧ Cl d 39 [.ref a0, .int a1, .int a2, .int a3] (yemb t) (Gk (d + 1) 27 61 [l0, l1, l2, l3, l4, l5] st Q) := gs_call f_27_61 ((xinv_call (i := 61) (n := 824) (ls := [l0, l1, l2, l3, l4, l5]) (kind := 0) (σ := yemb t) (by decide)).trans (xcall_vi [.int a3, .int a2, .int a1, .ref a0] rfl rfl (show (4 : Nat) ≤ 6 by decide) rfl ho))
theorem f_27_62 : ft 27 62 = some (110, .pop, []) := rfl
theorem s_27_62 {d : Nat} {σ : xS} {st : List Value} {Q : xR → xS → Prop} {l0 l1 l2 l3 l4 l5 : Option Value} {x : Nat} : G d 27 62 [l0, l1, l2, l3, l4, l5] (.ref x :: st) σ Q ↔ G d 27 63 [l0, l1, l2, l3, l4, l5] st σ Q := gs_go f_27_62 rfl
theorem s_27_62i {d : Nat} {σ : xS} {st : List Value} {Q : xR → xS → Prop} {l0 l1 l2 l3 l4 l5 : Option Value} {x : Int32} : G d 27 62 [l0, l1, l2, l3, l4, l5] (.int x :: st) σ Q ↔ G d 27 63 [l0, l1, l2, l3, l4, l5] st σ Q := gs_go f_27_62 rfl
theorem f_27_63 : ft 27 63 = some (111, .iconst 1, []) := rfl
theorem s_27_63 {d : Nat} {σ : xS} {st : List Value} {Q : xR → xS → Prop} {l0 l1 l2 l3 l4 l5 : Option Value} : G d 27 63 [l0, l1, l2, l3, l4, l5] st σ Q ↔ G d 27 64 [l0, l1, l2, l3, l4, l5] (.int (1) :: st) σ Q := gs_go f_27_63 rfl
theorem f_27_64 : ft 27 64 = some (112, .ireturn, []) := rfl
theorem s_27_64 {d : Nat} {σ : xS} {ls : xL} {Q : xR → xS → Prop} {x : Int32} : G d 27 64 ls [.int x] σ Q ↔ ybo x ∧ Q (.inl (some (.int x))) σ := gs_retb f_27_64 rfl
theorem f_28_0 : ft 28 0 = some (0, .aload_n 0, []) := rfl
theorem s_28_0 {d : Nat} {σ : xS} {st : List Value} {Q : xR → xS → Prop} {l1 : Option Value} {x : Nat} : G d 28 0 [some (.ref x), l1] st σ Q ↔ G d 28 1 [some (.ref x), l1] (.ref x :: st) σ Q := gs_go f_28_0 rfl
theorem f_28_1 : ft 28 1 = some (1, .iconst 1, []) := rfl
theorem s_28_1 {d : Nat} {σ : xS} {st : List Value} {Q : xR → xS → Prop} {l0 l1 : Option Value} : G d 28 1 [l0, l1] st σ Q ↔ G d 28 2 [l0, l1] (.int (1) :: st) σ Q := gs_go f_28_1 rfl
theorem f_28_2 : ft 28 2 = some (2, .putfield 18, [3, 5, 0, 246]) := rfl
theorem s_28_2 {d : Nat} {t : yT} {st : List Value} {Q : xR → xS → Prop} {l0 l1 : Option Value} {a : Nat} {x : Int32} (hb : ybo x) (ho : yisO 3 a) : G d 28 2 [l0, l1] (.int x :: .ref a :: st) (yemb t) Q ↔ G d 28 3 [l0, l1] st (yemb (t.s1 a 5 x)) Q := gs_putI (c := 3) (j := 5) f_28_2 (fun _ => rfl) hb (yfb hb) ho
theorem f_28_3 : ft 28 3 = some (5, .aload_n 0, []) := rfl
theorem s_28_3 {d : Nat} {σ : xS} {st : List Value} {Q : xR → xS → Prop} {l1 : Option Value} {x : Nat} : G d 28 3 [some (.ref x), l1] st σ Q ↔ G d 28 4 [some (.ref x), l1] (.ref x :: st) σ Q := gs_go f_28_3 rfl
theorem f_28_4 : ft 28 4 = some (6, .getfield 25, [3, 0, 0, 241]) := rfl
theorem s_28_4 {d : Nat} {t : yT} {st : List Value} {Q : xR → xS → Prop} {l0 l1 : Option Value} {a : Nat} (ho : yisO 3 a) : G d 28 4 [l0, l1] (.ref a :: st) (yemb t) Q ↔ G d 28 5 [l0, l1] (.ref 1 :: st) (yemb t) Q := gs_getf (c := 3) (j := 0) (q := .c 1) f_28_4 ho rfl
theorem f_28_5 : ft 28 5 = some (9, .invokevirtual 104, [80, 1, 0, 784]) := rfl
theorem s_28_5 {d : Nat} {t : yT} {st : List Value} {Q : xR → xS → Prop} {l0 l1 : Option Value} {a0 : Nat} (ho : yisO 6 a0) : G (d + 1) 28 5 [l0, l1] (.ref a0 :: st) (yemb t) Q ↔ xcat st ≤ 8 ∧ Cl d 80 [.ref a0] (yemb t) (Gk (d + 1) 28 5 [l0, l1] st Q) := gs_call f_28_5 ((xinv_call (i := 5) (n := 784) (ls := [l0, l1]) (kind := 0) (σ := yemb t) (by decide)).trans (xcall_vi [.ref a0] rfl rfl (show (1 : Nat) ≤ 1 by decide) rfl ho))
theorem f_28_6 : ft 28 6 = some (12, .aload_n 0, []) := rfl
theorem s_28_6 {d : Nat} {σ : xS} {st : List Value} {Q : xR → xS → Prop} {l1 : Option Value} {x : Nat} : G d 28 6 [some (.ref x), l1] st σ Q ↔ G d 28 7 [some (.ref x), l1] (.ref x :: st) σ Q := gs_go f_28_6 rfl
theorem f_28_7 : ft 28 7 = some (13, .getfield 25, [3, 0, 0, 241]) := rfl
theorem s_28_7 {d : Nat} {t : yT} {st : List Value} {Q : xR → xS → Prop} {l0 l1 : Option Value} {a : Nat} (ho : yisO 3 a) : G d 28 7 [l0, l1] (.ref a :: st) (yemb t) Q ↔ G d 28 8 [l0, l1] (.ref 1 :: st) (yemb t) Q := gs_getf (c := 3) (j := 0) (q := .c 1) f_28_7 ho rfl
theorem f_28_8 : ft 28 8 = some (16, .iconst 0, []) := rfl
theorem s_28_8 {d : Nat} {σ : xS} {st : List Value} {Q : xR → xS → Prop} {l0 l1 : Option Value} : G d 28 8 [l0, l1] st σ Q ↔ G d 28 9 [l0, l1] (.int (0) :: st) σ Q := gs_go f_28_8 rfl
theorem f_28_9 : ft 28 9 = some (17, .sipush 255, []) := rfl
theorem s_28_9 {d : Nat} {σ : xS} {st : List Value} {Q : xR → xS → Prop} {l0 l1 : Option Value} : G d 28 9 [l0, l1] st σ Q ↔ G d 28 10 [l0, l1] (.int (255) :: st) σ Q := gs_go f_28_9 rfl
theorem f_28_10 : ft 28 10 = some (20, .invokevirtual 70, [89, 3, 0, 757]) := rfl
theorem s_28_10 {d : Nat} {t : yT} {st : List Value} {Q : xR → xS → Prop} {l0 l1 : Option Value} {a0 : Nat} {a1 : Int32} {a2 : Int32} (ho : yisO 6 a0) : G (d + 1) 28 10 [l0, l1] (.int a2 :: .int a1 :: .ref a0 :: st) (yemb t) Q ↔ xcat st ≤ 8 ∧ Cl d 89 [.ref a0, .int a1, .int a2] (yemb t) (Gk (d + 1) 28 10 [l0, l1] st Q) := gs_call f_28_10 ((xinv_call (i := 10) (n := 757) (ls := [l0, l1]) (kind := 0) (σ := yemb t) (by decide)).trans (xcall_vi [.int a2, .int a1, .ref a0] rfl rfl (show (3 : Nat) ≤ 4 by decide) rfl ho))
theorem f_28_11 : ft 28 11 = some (23, .istore_n 1, []) := rfl
theorem s_28_11 {d : Nat} {σ : xS} {st : List Value} {Q : xR → xS → Prop} {l0 l1 : Option Value} {x : Int32} : G d 28 11 [l0, l1] (.int x :: st) σ Q ↔ G d 28 12 [ykl l0, some (.int x)] st σ Q := by
  cases l0 with
  | none => exact gs_go f_28_11 rfl
  | some v => cases v <;> exact gs_go f_28_11 rfl
theorem f_28_12 : ft 28 12 = some (24, .iload_n 1, []) := rfl
theorem s_28_12 {d : Nat} {σ : xS} {st : List Value} {Q : xR → xS → Prop} {l0 : Option Value} {x : Int32} : G d 28 12 [l0, some (.int x)] st σ Q ↔ G d 28 13 [l0, some (.int x)] (.int x :: st) σ Q := gs_go f_28_12 rfl
theorem f_28_13 : ft 28 13 = some (25, .ifCond .ge 5, [16]) := rfl
theorem s_28_13 {d : Nat} {σ : xS} {st : List Value} {Q : xR → xS → Prop} {l0 l1 : Option Value} {x : Int32} : G d 28 13 [l0, l1] (.int x :: st) σ Q ↔ if 0 ≤ x then G d 28 16 [l0, l1] st σ Q else G d 28 14 [l0, l1] st σ Q := gs_if f_28_13 rfl
theorem f_28_14 : ft 28 14 = some (28, .iconst 0, []) := rfl
theorem s_28_14 {d : Nat} {σ : xS} {st : List Value} {Q : xR → xS → Prop} {l0 l1 : Option Value} : G d 28 14 [l0, l1] st σ Q ↔ G d 28 15 [l0, l1] (.int (0) :: st) σ Q := gs_go f_28_14 rfl
theorem f_28_15 : ft 28 15 = some (29, .ireturn, []) := rfl
theorem s_28_15 {d : Nat} {σ : xS} {ls : xL} {Q : xR → xS → Prop} {x : Int32} : G d 28 15 ls [.int x] σ Q ↔ ybo x ∧ Q (.inl (some (.int x))) σ := gs_retb f_28_15 rfl
theorem f_28_16 : ft 28 16 = some (30, .aload_n 0, []) := rfl
theorem s_28_16 {d : Nat} {σ : xS} {st : List Value} {Q : xR → xS → Prop} {l1 : Option Value} {x : Nat} : G d 28 16 [some (.ref x), l1] st σ Q ↔ G d 28 17 [some (.ref x), l1] (.ref x :: st) σ Q := gs_go f_28_16 rfl
theorem f_28_17 : ft 28 17 = some (31, .getfield 29, [3, 1, 0, 242]) := rfl
theorem s_28_17 {d : Nat} {t : yT} {st : List Value} {Q : xR → xS → Prop} {l0 l1 : Option Value} {a : Nat} (ho : yisO 3 a) : G d 28 17 [l0, l1] (.ref a :: st) (yemb t) Q ↔ G d 28 18 [l0, l1] (.ref 19 :: st) (yemb t) Q := gs_getf (c := 3) (j := 1) (q := .c 19) f_28_17 ho rfl
theorem f_28_18 : ft 28 18 = some (34, .iload_n 1, []) := rfl
theorem s_28_18 {d : Nat} {σ : xS} {st : List Value} {Q : xR → xS → Prop} {l0 : Option Value} {x : Int32} : G d 28 18 [l0, some (.int x)] st σ Q ↔ G d 28 19 [l0, some (.int x)] (.int x :: st) σ Q := gs_go f_28_18 rfl
theorem f_28_19 : ft 28 19 = some (35, .putfield 160, [4, 11, 1, 167]) := rfl
theorem s_28_19 {d : Nat} {t : yT} {st : List Value} {Q : xR → xS → Prop} {l0 l1 : Option Value} {a : Nat} {x : Int32} (ho : yisO 4 a) : G d 28 19 [l0, l1] (.int x :: .ref a :: st) (yemb t) Q ↔ G d 28 20 [l0, l1] st (yemb (t.s1 a 11 x)) Q := gs_putI (c := 4) (j := 11) f_28_19 (fun _ => rfl) rfl rfl ho
theorem f_28_20 : ft 28 20 = some (38, .iconst 1, []) := rfl
theorem s_28_20 {d : Nat} {σ : xS} {st : List Value} {Q : xR → xS → Prop} {l0 l1 : Option Value} : G d 28 20 [l0, l1] st σ Q ↔ G d 28 21 [l0, l1] (.int (1) :: st) σ Q := gs_go f_28_20 rfl
theorem f_28_21 : ft 28 21 = some (39, .ireturn, []) := rfl
theorem s_28_21 {d : Nat} {σ : xS} {ls : xL} {Q : xR → xS → Prop} {x : Int32} : G d 28 21 ls [.int x] σ Q ↔ ybo x ∧ Q (.inl (some (.int x))) σ := gs_retb f_28_21 rfl
theorem f_29_0 : ft 29 0 = some (0, .aload_n 0, []) := rfl
theorem s_29_0 {d : Nat} {σ : xS} {st : List Value} {Q : xR → xS → Prop} {x : Nat} : G d 29 0 [some (.ref x)] st σ Q ↔ G d 29 1 [some (.ref x)] (.ref x :: st) σ Q := gs_go f_29_0 rfl
theorem f_29_1 : ft 29 1 = some (1, .invokespecial 3, [0, 1, 20, 134]) := rfl
theorem f_29_2 : ft 29 2 = some (4, .aload_n 0, []) := rfl
theorem s_29_2 {d : Nat} {σ : xS} {st : List Value} {Q : xR → xS → Prop} {x : Nat} : G d 29 2 [some (.ref x)] st σ Q ↔ G d 29 3 [some (.ref x)] (.ref x :: st) σ Q := gs_go f_29_2 rfl
theorem f_29_3 : ft 29 3 = some (5, .bipush 40, []) := rfl
theorem s_29_3 {d : Nat} {σ : xS} {st : List Value} {Q : xR → xS → Prop} {l0 : Option Value} : G d 29 3 [l0] st σ Q ↔ G d 29 4 [l0] (.int (40) :: st) σ Q := gs_go f_29_3 rfl
theorem f_29_4 : ft 29 4 = some (7, .newarray .int, [0]) := rfl
theorem f_29_5 : ft 29 5 = some (9, .putfield 9, [4, 0, 0, 142]) := rfl
theorem f_29_6 : ft 29 6 = some (12, .aload_n 0, []) := rfl
theorem s_29_6 {d : Nat} {σ : xS} {st : List Value} {Q : xR → xS → Prop} {x : Nat} : G d 29 6 [some (.ref x)] st σ Q ↔ G d 29 7 [some (.ref x)] (.ref x :: st) σ Q := gs_go f_29_6 rfl
theorem f_29_7 : ft 29 7 = some (13, .bipush 40, []) := rfl
theorem s_29_7 {d : Nat} {σ : xS} {st : List Value} {Q : xR → xS → Prop} {l0 : Option Value} : G d 29 7 [l0] st σ Q ↔ G d 29 8 [l0] (.int (40) :: st) σ Q := gs_go f_29_7 rfl
theorem f_29_8 : ft 29 8 = some (15, .newarray .int, [0]) := rfl
theorem f_29_9 : ft 29 9 = some (17, .putfield 15, [4, 1, 0, 144]) := rfl
theorem f_29_10 : ft 29 10 = some (20, .aload_n 0, []) := rfl
theorem s_29_10 {d : Nat} {σ : xS} {st : List Value} {Q : xR → xS → Prop} {x : Nat} : G d 29 10 [some (.ref x)] st σ Q ↔ G d 29 11 [some (.ref x)] (.ref x :: st) σ Q := gs_go f_29_10 rfl
theorem f_29_11 : ft 29 11 = some (21, .bipush 40, []) := rfl
theorem s_29_11 {d : Nat} {σ : xS} {st : List Value} {Q : xR → xS → Prop} {l0 : Option Value} : G d 29 11 [l0] st σ Q ↔ G d 29 12 [l0] (.int (40) :: st) σ Q := gs_go f_29_11 rfl
theorem f_29_12 : ft 29 12 = some (23, .newarray .int, [0]) := rfl
theorem f_29_13 : ft 29 13 = some (25, .putfield 18, [4, 2, 0, 146]) := rfl
theorem f_29_14 : ft 29 14 = some (28, .aload_n 0, []) := rfl
theorem s_29_14 {d : Nat} {σ : xS} {st : List Value} {Q : xR → xS → Prop} {x : Nat} : G d 29 14 [some (.ref x)] st σ Q ↔ G d 29 15 [some (.ref x)] (.ref x :: st) σ Q := gs_go f_29_14 rfl
theorem f_29_15 : ft 29 15 = some (29, .bipush 40, []) := rfl
theorem s_29_15 {d : Nat} {σ : xS} {st : List Value} {Q : xR → xS → Prop} {l0 : Option Value} : G d 29 15 [l0] st σ Q ↔ G d 29 16 [l0] (.int (40) :: st) σ Q := gs_go f_29_15 rfl
theorem f_29_16 : ft 29 16 = some (31, .newarray .int, [0]) := rfl
theorem f_29_17 : ft 29 17 = some (33, .putfield 21, [4, 3, 0, 148]) := rfl
theorem f_29_18 : ft 29 18 = some (36, .aload_n 0, []) := rfl
theorem s_29_18 {d : Nat} {σ : xS} {st : List Value} {Q : xR → xS → Prop} {x : Nat} : G d 29 18 [some (.ref x)] st σ Q ↔ G d 29 19 [some (.ref x)] (.ref x :: st) σ Q := gs_go f_29_18 rfl
theorem f_29_19 : ft 29 19 = some (37, .bipush 40, []) := rfl
theorem s_29_19 {d : Nat} {σ : xS} {st : List Value} {Q : xR → xS → Prop} {l0 : Option Value} : G d 29 19 [l0] st σ Q ↔ G d 29 20 [l0] (.int (40) :: st) σ Q := gs_go f_29_19 rfl
theorem f_29_20 : ft 29 20 = some (39, .newarray .int, [0]) := rfl
theorem f_29_21 : ft 29 21 = some (41, .putfield 24, [4, 4, 0, 150]) := rfl
theorem f_29_22 : ft 29 22 = some (44, .aload_n 0, []) := rfl
theorem s_29_22 {d : Nat} {σ : xS} {st : List Value} {Q : xR → xS → Prop} {x : Nat} : G d 29 22 [some (.ref x)] st σ Q ↔ G d 29 23 [some (.ref x)] (.ref x :: st) σ Q := gs_go f_29_22 rfl
theorem f_29_23 : ft 29 23 = some (45, .bipush 40, []) := rfl
theorem s_29_23 {d : Nat} {σ : xS} {st : List Value} {Q : xR → xS → Prop} {l0 : Option Value} : G d 29 23 [l0] st σ Q ↔ G d 29 24 [l0] (.int (40) :: st) σ Q := gs_go f_29_23 rfl
theorem f_29_24 : ft 29 24 = some (47, .newarray .int, [0]) := rfl
theorem f_29_25 : ft 29 25 = some (49, .putfield 27, [4, 5, 0, 152]) := rfl
theorem f_29_26 : ft 29 26 = some (52, .aload_n 0, []) := rfl
theorem s_29_26 {d : Nat} {σ : xS} {st : List Value} {Q : xR → xS → Prop} {x : Nat} : G d 29 26 [some (.ref x)] st σ Q ↔ G d 29 27 [some (.ref x)] (.ref x :: st) σ Q := gs_go f_29_26 rfl
theorem f_29_27 : ft 29 27 = some (53, .bipush 40, []) := rfl
theorem s_29_27 {d : Nat} {σ : xS} {st : List Value} {Q : xR → xS → Prop} {l0 : Option Value} : G d 29 27 [l0] st σ Q ↔ G d 29 28 [l0] (.int (40) :: st) σ Q := gs_go f_29_27 rfl
theorem f_29_28 : ft 29 28 = some (55, .newarray .int, [0]) := rfl
theorem f_29_29 : ft 29 29 = some (57, .putfield 30, [4, 6, 0, 154]) := rfl
theorem f_29_30 : ft 29 30 = some (60, .aload_n 0, []) := rfl
theorem s_29_30 {d : Nat} {σ : xS} {st : List Value} {Q : xR → xS → Prop} {x : Nat} : G d 29 30 [some (.ref x)] st σ Q ↔ G d 29 31 [some (.ref x)] (.ref x :: st) σ Q := gs_go f_29_30 rfl
theorem f_29_31 : ft 29 31 = some (61, .bipush 6, []) := rfl
theorem s_29_31 {d : Nat} {σ : xS} {st : List Value} {Q : xR → xS → Prop} {l0 : Option Value} : G d 29 31 [l0] st σ Q ↔ G d 29 32 [l0] (.int (6) :: st) σ Q := gs_go f_29_31 rfl
theorem f_29_32 : ft 29 32 = some (63, .newarray .int, [0]) := rfl
theorem f_29_33 : ft 29 33 = some (65, .putfield 33, [4, 7, 0, 156]) := rfl
theorem f_29_34 : ft 29 34 = some (68, .aload_n 0, []) := rfl
theorem s_29_34 {d : Nat} {σ : xS} {st : List Value} {Q : xR → xS → Prop} {x : Nat} : G d 29 34 [some (.ref x)] st σ Q ↔ G d 29 35 [some (.ref x)] (.ref x :: st) σ Q := gs_go f_29_34 rfl
theorem f_29_35 : ft 29 35 = some (69, .bipush 6, []) := rfl
theorem s_29_35 {d : Nat} {σ : xS} {st : List Value} {Q : xR → xS → Prop} {l0 : Option Value} : G d 29 35 [l0] st σ Q ↔ G d 29 36 [l0] (.int (6) :: st) σ Q := gs_go f_29_35 rfl
theorem f_29_36 : ft 29 36 = some (71, .newarray .int, [0]) := rfl
theorem f_29_37 : ft 29 37 = some (73, .putfield 36, [4, 8, 0, 158]) := rfl
theorem f_29_38 : ft 29 38 = some (76, .aload_n 0, []) := rfl
theorem s_29_38 {d : Nat} {σ : xS} {st : List Value} {Q : xR → xS → Prop} {x : Nat} : G d 29 38 [some (.ref x)] st σ Q ↔ G d 29 39 [some (.ref x)] (.ref x :: st) σ Q := gs_go f_29_38 rfl
theorem f_29_39 : ft 29 39 = some (77, .bipush 40, []) := rfl
theorem s_29_39 {d : Nat} {σ : xS} {st : List Value} {Q : xR → xS → Prop} {l0 : Option Value} : G d 29 39 [l0] st σ Q ↔ G d 29 40 [l0] (.int (40) :: st) σ Q := gs_go f_29_39 rfl
theorem f_29_40 : ft 29 40 = some (79, .newarray .int, [0]) := rfl
theorem f_29_41 : ft 29 41 = some (81, .putfield 39, [4, 17, 0, 180]) := rfl
theorem f_29_42 : ft 29 42 = some (84, .aload_n 0, []) := rfl
theorem s_29_42 {d : Nat} {σ : xS} {st : List Value} {Q : xR → xS → Prop} {x : Nat} : G d 29 42 [some (.ref x)] st σ Q ↔ G d 29 43 [some (.ref x)] (.ref x :: st) σ Q := gs_go f_29_42 rfl
theorem f_29_43 : ft 29 43 = some (85, .iconst 1, []) := rfl
theorem s_29_43 {d : Nat} {σ : xS} {st : List Value} {Q : xR → xS → Prop} {l0 : Option Value} : G d 29 43 [l0] st σ Q ↔ G d 29 44 [l0] (.int (1) :: st) σ Q := gs_go f_29_43 rfl
theorem f_29_44 : ft 29 44 = some (86, .iconst 1, []) := rfl
theorem s_29_44 {d : Nat} {σ : xS} {st : List Value} {Q : xR → xS → Prop} {l0 : Option Value} : G d 29 44 [l0] st σ Q ↔ G d 29 45 [l0] (.int (1) :: st) σ Q := gs_go f_29_44 rfl
theorem f_29_45 : ft 29 45 = some (87, .invokevirtual 42, [30, 3, 0, 135]) := rfl
theorem s_29_45 {d : Nat} {t : yT} {st : List Value} {Q : xR → xS → Prop} {l0 : Option Value} {a0 : Nat} {a1 : Int32} {a2 : Int32} (ho : yisO 4 a0) : G (d + 1) 29 45 [l0] (.int a2 :: .int a1 :: .ref a0 :: st) (yemb t) Q ↔ xcat st ≤ 8 ∧ Cl d 30 [.ref a0, .int a1, .int a2] (yemb t) (Gk (d + 1) 29 45 [l0] st Q) := gs_call f_29_45 ((xinv_call (i := 45) (n := 135) (ls := [l0]) (kind := 0) (σ := yemb t) (by decide)).trans (xcall_vi [.int a2, .int a1, .ref a0] rfl rfl (show (3 : Nat) ≤ 3 by decide) rfl ho))
theorem f_29_46 : ft 29 46 = some (90, .return_, []) := rfl
theorem s_29_46 {d : Nat} {σ : xS} {ls : xL} {Q : xR → xS → Prop} : G d 29 46 ls [] σ Q ↔ Q (.inl none) σ := gs_ret f_29_46 rfl
theorem f_30_0 : ft 30 0 = some (0, .aload_n 0, []) := rfl
theorem s_30_0 {d : Nat} {σ : xS} {st : List Value} {Q : xR → xS → Prop} {l1 l2 : Option Value} {x : Nat} : G d 30 0 [some (.ref x), l1, l2] st σ Q ↔ G d 30 1 [some (.ref x), l1, l2] (.ref x :: st) σ Q := gs_go f_30_0 rfl
theorem f_30_1 : ft 30 1 = some (1, .iload_n 1, []) := rfl
theorem s_30_1 {d : Nat} {σ : xS} {st : List Value} {Q : xR → xS → Prop} {l0 l2 : Option Value} {x : Int32} : G d 30 1 [l0, some (.int x), l2] st σ Q ↔ G d 30 2 [l0, some (.int x), l2] (.int x :: st) σ Q := gs_go f_30_1 rfl
theorem f_30_2 : ft 30 2 = some (2, .putfield 46, [4, 9, 0, 160]) := rfl
theorem s_30_2 {d : Nat} {t : yT} {st : List Value} {Q : xR → xS → Prop} {l0 l1 l2 : Option Value} {a : Nat} {x : Int32} (ho : yisO 4 a) : G d 30 2 [l0, l1, l2] (.int x :: .ref a :: st) (yemb t) Q ↔ G d 30 3 [l0, l1, l2] st (yemb (t.s1 a 9 x)) Q := gs_putI (c := 4) (j := 9) f_30_2 (fun _ => rfl) rfl rfl ho
theorem f_30_3 : ft 30 3 = some (5, .aload_n 0, []) := rfl
theorem s_30_3 {d : Nat} {σ : xS} {st : List Value} {Q : xR → xS → Prop} {l1 l2 : Option Value} {x : Nat} : G d 30 3 [some (.ref x), l1, l2] st σ Q ↔ G d 30 4 [some (.ref x), l1, l2] (.ref x :: st) σ Q := gs_go f_30_3 rfl
theorem f_30_4 : ft 30 4 = some (6, .iload_n 2, []) := rfl
theorem s_30_4 {d : Nat} {σ : xS} {st : List Value} {Q : xR → xS → Prop} {l0 l1 : Option Value} {x : Int32} : G d 30 4 [l0, l1, some (.int x)] st σ Q ↔ G d 30 5 [l0, l1, some (.int x)] (.int x :: st) σ Q := gs_go f_30_4 rfl
theorem f_30_5 : ft 30 5 = some (7, .putfield 50, [4, 10, 0, 163]) := rfl
theorem s_30_5 {d : Nat} {t : yT} {st : List Value} {Q : xR → xS → Prop} {l0 l1 l2 : Option Value} {a : Nat} {x : Int32} (ho : yisO 4 a) : G d 30 5 [l0, l1, l2] (.int x :: .ref a :: st) (yemb t) Q ↔ G d 30 6 [l0, l1, l2] st (yemb (t.s1 a 10 x)) Q := gs_putI (c := 4) (j := 10) f_30_5 (fun _ => rfl) rfl rfl ho
theorem f_30_6 : ft 30 6 = some (10, .aload_n 0, []) := rfl
theorem s_30_6 {d : Nat} {σ : xS} {st : List Value} {Q : xR → xS → Prop} {l1 l2 : Option Value} {x : Nat} : G d 30 6 [some (.ref x), l1, l2] st σ Q ↔ G d 30 7 [some (.ref x), l1, l2] (.ref x :: st) σ Q := gs_go f_30_6 rfl
theorem f_30_7 : ft 30 7 = some (11, .sipush 255, []) := rfl
theorem s_30_7 {d : Nat} {σ : xS} {st : List Value} {Q : xR → xS → Prop} {l0 l1 l2 : Option Value} : G d 30 7 [l0, l1, l2] st σ Q ↔ G d 30 8 [l0, l1, l2] (.int (255) :: st) σ Q := gs_go f_30_7 rfl
theorem f_30_8 : ft 30 8 = some (14, .putfield 53, [4, 11, 0, 165]) := rfl
theorem s_30_8 {d : Nat} {t : yT} {st : List Value} {Q : xR → xS → Prop} {l0 l1 l2 : Option Value} {a : Nat} {x : Int32} (ho : yisO 4 a) : G d 30 8 [l0, l1, l2] (.int x :: .ref a :: st) (yemb t) Q ↔ G d 30 9 [l0, l1, l2] st (yemb (t.s1 a 11 x)) Q := gs_putI (c := 4) (j := 11) f_30_8 (fun _ => rfl) rfl rfl ho
theorem f_30_9 : ft 30 9 = some (17, .aload_n 0, []) := rfl
theorem s_30_9 {d : Nat} {σ : xS} {st : List Value} {Q : xR → xS → Prop} {l1 l2 : Option Value} {x : Nat} : G d 30 9 [some (.ref x), l1, l2] st σ Q ↔ G d 30 10 [some (.ref x), l1, l2] (.ref x :: st) σ Q := gs_go f_30_9 rfl
theorem f_30_10 : ft 30 10 = some (18, .iconst 0, []) := rfl
theorem s_30_10 {d : Nat} {σ : xS} {st : List Value} {Q : xR → xS → Prop} {l0 l1 l2 : Option Value} : G d 30 10 [l0, l1, l2] st σ Q ↔ G d 30 11 [l0, l1, l2] (.int (0) :: st) σ Q := gs_go f_30_10 rfl
theorem f_30_11 : ft 30 11 = some (19, .putfield 56, [4, 13, 0, 172]) := rfl
theorem s_30_11 {d : Nat} {t : yT} {st : List Value} {Q : xR → xS → Prop} {l0 l1 l2 : Option Value} {a : Nat} {x : Int32} (ho : yisO 4 a) : G d 30 11 [l0, l1, l2] (.int x :: .ref a :: st) (yemb t) Q ↔ G d 30 12 [l0, l1, l2] st (yemb (t.s1 a 13 x)) Q := gs_putI (c := 4) (j := 13) f_30_11 (fun _ => rfl) rfl rfl ho
theorem f_30_12 : ft 30 12 = some (22, .aload_n 0, []) := rfl
theorem s_30_12 {d : Nat} {σ : xS} {st : List Value} {Q : xR → xS → Prop} {l1 l2 : Option Value} {x : Nat} : G d 30 12 [some (.ref x), l1, l2] st σ Q ↔ G d 30 13 [some (.ref x), l1, l2] (.ref x :: st) σ Q := gs_go f_30_12 rfl
theorem f_30_13 : ft 30 13 = some (23, .iconst 0, []) := rfl
theorem s_30_13 {d : Nat} {σ : xS} {st : List Value} {Q : xR → xS → Prop} {l0 l1 l2 : Option Value} : G d 30 13 [l0, l1, l2] st σ Q ↔ G d 30 14 [l0, l1, l2] (.int (0) :: st) σ Q := gs_go f_30_13 rfl
theorem f_30_14 : ft 30 14 = some (24, .putfield 59, [4, 14, 0, 174]) := rfl
theorem s_30_14 {d : Nat} {t : yT} {st : List Value} {Q : xR → xS → Prop} {l0 l1 l2 : Option Value} {a : Nat} {x : Int32} (ho : yisO 4 a) : G d 30 14 [l0, l1, l2] (.int x :: .ref a :: st) (yemb t) Q ↔ G d 30 15 [l0, l1, l2] st (yemb (t.s1 a 14 x)) Q := gs_putI (c := 4) (j := 14) f_30_14 (fun _ => rfl) rfl rfl ho
theorem f_30_15 : ft 30 15 = some (27, .aload_n 0, []) := rfl
theorem s_30_15 {d : Nat} {σ : xS} {st : List Value} {Q : xR → xS → Prop} {l1 l2 : Option Value} {x : Nat} : G d 30 15 [some (.ref x), l1, l2] st σ Q ↔ G d 30 16 [some (.ref x), l1, l2] (.ref x :: st) σ Q := gs_go f_30_15 rfl
theorem f_30_16 : ft 30 16 = some (28, .lconst 0, []) := rfl
theorem s_30_16 {d : Nat} {σ : xS} {st : List Value} {Q : xR → xS → Prop} {l0 l1 l2 : Option Value} : G d 30 16 [l0, l1, l2] st σ Q ↔ G d 30 17 [l0, l1, l2] (.long (0) :: st) σ Q := gs_go f_30_16 rfl
theorem f_30_17 : ft 30 17 = some (29, .putfield 62, [4, 15, 0, 176]) := rfl
theorem s_30_17 {d : Nat} {t : yT} {st : List Value} {Q : xR → xS → Prop} {l0 l1 l2 : Option Value} {a : Nat} {x : Int64} (ho : yisO 4 a) : G d 30 17 [l0, l1, l2] (.long x :: .ref a :: st) (yemb t) Q ↔ G d 30 18 [l0, l1, l2] st (yemb (t.sL a 15 x)) Q := gs_putL (c := 4) (j := 15) f_30_17 (fun _ => rfl) rfl rfl ho
theorem f_30_18 : ft 30 18 = some (32, .aload_n 0, []) := rfl
theorem s_30_18 {d : Nat} {σ : xS} {st : List Value} {Q : xR → xS → Prop} {l1 l2 : Option Value} {x : Nat} : G d 30 18 [some (.ref x), l1, l2] st σ Q ↔ G d 30 19 [some (.ref x), l1, l2] (.ref x :: st) σ Q := gs_go f_30_18 rfl
theorem f_30_19 : ft 30 19 = some (33, .iconst 0, []) := rfl
theorem s_30_19 {d : Nat} {σ : xS} {st : List Value} {Q : xR → xS → Prop} {l0 l1 l2 : Option Value} : G d 30 19 [l0, l1, l2] st σ Q ↔ G d 30 20 [l0, l1, l2] (.int (0) :: st) σ Q := gs_go f_30_19 rfl
theorem f_30_20 : ft 30 20 = some (34, .newarray .int, [0]) := rfl
theorem f_30_21 : ft 30 21 = some (36, .putfield 66, [4, 16, 0, 178]) := rfl
theorem s_30_21 {d : Nat} {t : yT} {st : List Value} {Q : xR → xS → Prop} {l0 l1 l2 : Option Value} {a x : Nat} (ho : yisO 4 a) : G d 30 21 [l0, l1, l2] (.ref x :: .ref a :: st) (yemb t) Q ↔ G d 30 22 [l0, l1, l2] st (yemb (t.sR a x)) Q := gs_putR (c := 4) (j := 16) f_30_21 (fun _ => rfl) yum4 rfl rfl ho
theorem f_30_22 : ft 30 22 = some (39, .aload_n 0, []) := rfl
theorem s_30_22 {d : Nat} {σ : xS} {st : List Value} {Q : xR → xS → Prop} {l1 l2 : Option Value} {x : Nat} : G d 30 22 [some (.ref x), l1, l2] st σ Q ↔ G d 30 23 [some (.ref x), l1, l2] (.ref x :: st) σ Q := gs_go f_30_22 rfl
theorem f_30_23 : ft 30 23 = some (40, .iconst 1, []) := rfl
theorem s_30_23 {d : Nat} {σ : xS} {st : List Value} {Q : xR → xS → Prop} {l0 l1 l2 : Option Value} : G d 30 23 [l0, l1, l2] st σ Q ↔ G d 30 24 [l0, l1, l2] (.int (1) :: st) σ Q := gs_go f_30_23 rfl
theorem f_30_24 : ft 30 24 = some (41, .putfield 69, [4, 12, 0, 169]) := rfl
theorem s_30_24 {d : Nat} {t : yT} {st : List Value} {Q : xR → xS → Prop} {l0 l1 l2 : Option Value} {a : Nat} {x : Int32} (ho : yisO 4 a) : G d 30 24 [l0, l1, l2] (.int x :: .ref a :: st) (yemb t) Q ↔ G d 30 25 [l0, l1, l2] st (yemb (t.s1 a 12 x)) Q := gs_putI (c := 4) (j := 12) f_30_24 (fun _ => rfl) rfl rfl ho
theorem f_30_25 : ft 30 25 = some (44, .aload_n 0, []) := rfl
theorem s_30_25 {d : Nat} {σ : xS} {st : List Value} {Q : xR → xS → Prop} {l1 l2 : Option Value} {x : Nat} : G d 30 25 [some (.ref x), l1, l2] st σ Q ↔ G d 30 26 [some (.ref x), l1, l2] (.ref x :: st) σ Q := gs_go f_30_25 rfl
theorem f_30_26 : ft 30 26 = some (45, .getfield 33, [4, 7, 0, 156]) := rfl
theorem s_30_26 {d : Nat} {t : yT} {st : List Value} {Q : xR → xS → Prop} {l0 l1 l2 : Option Value} {a : Nat} (ho : yisO 4 a) : G d 30 26 [l0, l1, l2] (.ref a :: st) (yemb t) Q ↔ G d 30 27 [l0, l1, l2] (.ref (a + 8) :: st) (yemb t) Q := gs_getf (c := 4) (j := 7) (q := .c (a + 8)) f_30_26 ho rfl
theorem f_30_27 : ft 30 27 = some (48, .iconst 0, []) := rfl
theorem s_30_27 {d : Nat} {σ : xS} {st : List Value} {Q : xR → xS → Prop} {l0 l1 l2 : Option Value} : G d 30 27 [l0, l1, l2] st σ Q ↔ G d 30 28 [l0, l1, l2] (.int (0) :: st) σ Q := gs_go f_30_27 rfl
theorem f_30_28 : ft 30 28 = some (49, .iconst 0, []) := rfl
theorem s_30_28 {d : Nat} {σ : xS} {st : List Value} {Q : xR → xS → Prop} {l0 l1 l2 : Option Value} : G d 30 28 [l0, l1, l2] st σ Q ↔ G d 30 29 [l0, l1, l2] (.int (0) :: st) σ Q := gs_go f_30_28 rfl
theorem f_30_29 : ft 30 29 = some (50, .iastore, []) := rfl
theorem s_30_29 {d : Nat} {t : yT} {st : List Value} {Q : xR → xS → Prop} {l0 l1 l2 : Option Value} {a : Nat} {x v : Int32} (ha : yA 0 a) : G d 30 29 [l0, l1, l2] (.int v :: .int x :: .ref a :: st) (yemb t) Q ↔ yix x (yn a) ∧ G d 30 30 [l0, l1, l2] st (yemb (t.s1 a x.toNatClampNeg v)) Q := gs_iast f_30_29 ha
theorem f_30_30 : ft 30 30 = some (51, .aload_n 0, []) := rfl
theorem s_30_30 {d : Nat} {σ : xS} {st : List Value} {Q : xR → xS → Prop} {l1 l2 : Option Value} {x : Nat} : G d 30 30 [some (.ref x), l1, l2] st σ Q ↔ G d 30 31 [some (.ref x), l1, l2] (.ref x :: st) σ Q := gs_go f_30_30 rfl
theorem f_30_31 : ft 30 31 = some (52, .getfield 36, [4, 8, 0, 158]) := rfl
theorem s_30_31 {d : Nat} {t : yT} {st : List Value} {Q : xR → xS → Prop} {l0 l1 l2 : Option Value} {a : Nat} (ho : yisO 4 a) : G d 30 31 [l0, l1, l2] (.ref a :: st) (yemb t) Q ↔ G d 30 32 [l0, l1, l2] (.ref (a + 9) :: st) (yemb t) Q := gs_getf (c := 4) (j := 8) (q := .c (a + 9)) f_30_31 ho rfl
theorem f_30_32 : ft 30 32 = some (55, .iconst 0, []) := rfl
theorem s_30_32 {d : Nat} {σ : xS} {st : List Value} {Q : xR → xS → Prop} {l0 l1 l2 : Option Value} : G d 30 32 [l0, l1, l2] st σ Q ↔ G d 30 33 [l0, l1, l2] (.int (0) :: st) σ Q := gs_go f_30_32 rfl
theorem f_30_33 : ft 30 33 = some (56, .sipush 9999, []) := rfl
theorem s_30_33 {d : Nat} {σ : xS} {st : List Value} {Q : xR → xS → Prop} {l0 l1 l2 : Option Value} : G d 30 33 [l0, l1, l2] st σ Q ↔ G d 30 34 [l0, l1, l2] (.int (9999) :: st) σ Q := gs_go f_30_33 rfl
theorem f_30_34 : ft 30 34 = some (59, .iastore, []) := rfl
theorem s_30_34 {d : Nat} {t : yT} {st : List Value} {Q : xR → xS → Prop} {l0 l1 l2 : Option Value} {a : Nat} {x v : Int32} (ha : yA 0 a) : G d 30 34 [l0, l1, l2] (.int v :: .int x :: .ref a :: st) (yemb t) Q ↔ yix x (yn a) ∧ G d 30 35 [l0, l1, l2] st (yemb (t.s1 a x.toNatClampNeg v)) Q := gs_iast f_30_34 ha
theorem f_30_35 : ft 30 35 = some (60, .aload_n 0, []) := rfl
theorem s_30_35 {d : Nat} {σ : xS} {st : List Value} {Q : xR → xS → Prop} {l1 l2 : Option Value} {x : Nat} : G d 30 35 [some (.ref x), l1, l2] st σ Q ↔ G d 30 36 [some (.ref x), l1, l2] (.ref x :: st) σ Q := gs_go f_30_35 rfl
theorem f_30_36 : ft 30 36 = some (61, .getfield 9, [4, 0, 0, 142]) := rfl
theorem s_30_36 {d : Nat} {t : yT} {st : List Value} {Q : xR → xS → Prop} {l0 l1 l2 : Option Value} {a : Nat} (ho : yisO 4 a) : G d 30 36 [l0, l1, l2] (.ref a :: st) (yemb t) Q ↔ G d 30 37 [l0, l1, l2] (.ref (a + 1) :: st) (yemb t) Q := gs_getf (c := 4) (j := 0) (q := .c (a + 1)) f_30_36 ho rfl
theorem f_30_37 : ft 30 37 = some (64, .iconst 0, []) := rfl
theorem s_30_37 {d : Nat} {σ : xS} {st : List Value} {Q : xR → xS → Prop} {l0 l1 l2 : Option Value} : G d 30 37 [l0, l1, l2] st σ Q ↔ G d 30 38 [l0, l1, l2] (.int (0) :: st) σ Q := gs_go f_30_37 rfl
theorem f_30_38 : ft 30 38 = some (65, .invokestatic 72, [223, 2, 1, 139]) := rfl
theorem s_30_38 {d : Nat} {σ : xS} {st : List Value} {Q : xR → xS → Prop} {l0 l1 l2 : Option Value} {a0 : Nat} {a1 : Int32} : G (d + 1) 30 38 [l0, l1, l2] (.int a1 :: .ref a0 :: st) σ Q ↔ xcat st ≤ 8 ∧ Cl d 223 [.ref a0, .int a1] σ (Gk (d + 1) 30 38 [l0, l1, l2] st Q) := gs_call f_30_38 ((xinv_call (i := 38) (n := 139) (ls := [l0, l1, l2]) (kind := 1) (σ := σ) (by decide)).trans (xcall_st [.int a1, .ref a0] rfl (by decide) (show (2 : Nat) ≤ 4 by decide)))
theorem f_30_39 : ft 30 39 = some (68, .aload_n 0, []) := rfl
theorem s_30_39 {d : Nat} {σ : xS} {st : List Value} {Q : xR → xS → Prop} {l1 l2 : Option Value} {x : Nat} : G d 30 39 [some (.ref x), l1, l2] st σ Q ↔ G d 30 40 [some (.ref x), l1, l2] (.ref x :: st) σ Q := gs_go f_30_39 rfl
theorem f_30_40 : ft 30 40 = some (69, .getfield 15, [4, 1, 0, 144]) := rfl
theorem s_30_40 {d : Nat} {t : yT} {st : List Value} {Q : xR → xS → Prop} {l0 l1 l2 : Option Value} {a : Nat} (ho : yisO 4 a) : G d 30 40 [l0, l1, l2] (.ref a :: st) (yemb t) Q ↔ G d 30 41 [l0, l1, l2] (.ref (a + 2) :: st) (yemb t) Q := gs_getf (c := 4) (j := 1) (q := .c (a + 2)) f_30_40 ho rfl
theorem f_30_41 : ft 30 41 = some (72, .iconst 0, []) := rfl
theorem s_30_41 {d : Nat} {σ : xS} {st : List Value} {Q : xR → xS → Prop} {l0 l1 l2 : Option Value} : G d 30 41 [l0, l1, l2] st σ Q ↔ G d 30 42 [l0, l1, l2] (.int (0) :: st) σ Q := gs_go f_30_41 rfl
theorem f_30_42 : ft 30 42 = some (73, .invokestatic 72, [223, 2, 1, 139]) := rfl
theorem s_30_42 {d : Nat} {σ : xS} {st : List Value} {Q : xR → xS → Prop} {l0 l1 l2 : Option Value} {a0 : Nat} {a1 : Int32} : G (d + 1) 30 42 [l0, l1, l2] (.int a1 :: .ref a0 :: st) σ Q ↔ xcat st ≤ 8 ∧ Cl d 223 [.ref a0, .int a1] σ (Gk (d + 1) 30 42 [l0, l1, l2] st Q) := gs_call f_30_42 ((xinv_call (i := 42) (n := 139) (ls := [l0, l1, l2]) (kind := 1) (σ := σ) (by decide)).trans (xcall_st [.int a1, .ref a0] rfl (by decide) (show (2 : Nat) ≤ 4 by decide)))
theorem f_30_43 : ft 30 43 = some (76, .aload_n 0, []) := rfl
theorem s_30_43 {d : Nat} {σ : xS} {st : List Value} {Q : xR → xS → Prop} {l1 l2 : Option Value} {x : Nat} : G d 30 43 [some (.ref x), l1, l2] st σ Q ↔ G d 30 44 [some (.ref x), l1, l2] (.ref x :: st) σ Q := gs_go f_30_43 rfl
theorem f_30_44 : ft 30 44 = some (77, .getfield 18, [4, 2, 0, 146]) := rfl
theorem s_30_44 {d : Nat} {t : yT} {st : List Value} {Q : xR → xS → Prop} {l0 l1 l2 : Option Value} {a : Nat} (ho : yisO 4 a) : G d 30 44 [l0, l1, l2] (.ref a :: st) (yemb t) Q ↔ G d 30 45 [l0, l1, l2] (.ref (a + 3) :: st) (yemb t) Q := gs_getf (c := 4) (j := 2) (q := .c (a + 3)) f_30_44 ho rfl
theorem f_30_45 : ft 30 45 = some (80, .iconst 0, []) := rfl
theorem s_30_45 {d : Nat} {σ : xS} {st : List Value} {Q : xR → xS → Prop} {l0 l1 l2 : Option Value} : G d 30 45 [l0, l1, l2] st σ Q ↔ G d 30 46 [l0, l1, l2] (.int (0) :: st) σ Q := gs_go f_30_45 rfl
theorem f_30_46 : ft 30 46 = some (81, .invokestatic 72, [223, 2, 1, 139]) := rfl
theorem s_30_46 {d : Nat} {σ : xS} {st : List Value} {Q : xR → xS → Prop} {l0 l1 l2 : Option Value} {a0 : Nat} {a1 : Int32} : G (d + 1) 30 46 [l0, l1, l2] (.int a1 :: .ref a0 :: st) σ Q ↔ xcat st ≤ 8 ∧ Cl d 223 [.ref a0, .int a1] σ (Gk (d + 1) 30 46 [l0, l1, l2] st Q) := gs_call f_30_46 ((xinv_call (i := 46) (n := 139) (ls := [l0, l1, l2]) (kind := 1) (σ := σ) (by decide)).trans (xcall_st [.int a1, .ref a0] rfl (by decide) (show (2 : Nat) ≤ 4 by decide)))
theorem f_30_47 : ft 30 47 = some (84, .aload_n 0, []) := rfl
theorem s_30_47 {d : Nat} {σ : xS} {st : List Value} {Q : xR → xS → Prop} {l1 l2 : Option Value} {x : Nat} : G d 30 47 [some (.ref x), l1, l2] st σ Q ↔ G d 30 48 [some (.ref x), l1, l2] (.ref x :: st) σ Q := gs_go f_30_47 rfl
theorem f_30_48 : ft 30 48 = some (85, .getfield 21, [4, 3, 0, 148]) := rfl
theorem s_30_48 {d : Nat} {t : yT} {st : List Value} {Q : xR → xS → Prop} {l0 l1 l2 : Option Value} {a : Nat} (ho : yisO 4 a) : G d 30 48 [l0, l1, l2] (.ref a :: st) (yemb t) Q ↔ G d 30 49 [l0, l1, l2] (.ref (a + 4) :: st) (yemb t) Q := gs_getf (c := 4) (j := 3) (q := .c (a + 4)) f_30_48 ho rfl
theorem f_30_49 : ft 30 49 = some (88, .iconst 0, []) := rfl
theorem s_30_49 {d : Nat} {σ : xS} {st : List Value} {Q : xR → xS → Prop} {l0 l1 l2 : Option Value} : G d 30 49 [l0, l1, l2] st σ Q ↔ G d 30 50 [l0, l1, l2] (.int (0) :: st) σ Q := gs_go f_30_49 rfl
theorem f_30_50 : ft 30 50 = some (89, .invokestatic 72, [223, 2, 1, 139]) := rfl
theorem s_30_50 {d : Nat} {σ : xS} {st : List Value} {Q : xR → xS → Prop} {l0 l1 l2 : Option Value} {a0 : Nat} {a1 : Int32} : G (d + 1) 30 50 [l0, l1, l2] (.int a1 :: .ref a0 :: st) σ Q ↔ xcat st ≤ 8 ∧ Cl d 223 [.ref a0, .int a1] σ (Gk (d + 1) 30 50 [l0, l1, l2] st Q) := gs_call f_30_50 ((xinv_call (i := 50) (n := 139) (ls := [l0, l1, l2]) (kind := 1) (σ := σ) (by decide)).trans (xcall_st [.int a1, .ref a0] rfl (by decide) (show (2 : Nat) ≤ 4 by decide)))
theorem f_30_51 : ft 30 51 = some (92, .aload_n 0, []) := rfl
theorem s_30_51 {d : Nat} {σ : xS} {st : List Value} {Q : xR → xS → Prop} {l1 l2 : Option Value} {x : Nat} : G d 30 51 [some (.ref x), l1, l2] st σ Q ↔ G d 30 52 [some (.ref x), l1, l2] (.ref x :: st) σ Q := gs_go f_30_51 rfl
theorem f_30_52 : ft 30 52 = some (93, .getfield 24, [4, 4, 0, 150]) := rfl
theorem s_30_52 {d : Nat} {t : yT} {st : List Value} {Q : xR → xS → Prop} {l0 l1 l2 : Option Value} {a : Nat} (ho : yisO 4 a) : G d 30 52 [l0, l1, l2] (.ref a :: st) (yemb t) Q ↔ G d 30 53 [l0, l1, l2] (.ref (a + 5) :: st) (yemb t) Q := gs_getf (c := 4) (j := 4) (q := .c (a + 5)) f_30_52 ho rfl
theorem f_30_53 : ft 30 53 = some (96, .iconst 0, []) := rfl
theorem s_30_53 {d : Nat} {σ : xS} {st : List Value} {Q : xR → xS → Prop} {l0 l1 l2 : Option Value} : G d 30 53 [l0, l1, l2] st σ Q ↔ G d 30 54 [l0, l1, l2] (.int (0) :: st) σ Q := gs_go f_30_53 rfl
theorem f_30_54 : ft 30 54 = some (97, .invokestatic 72, [223, 2, 1, 139]) := rfl
theorem s_30_54 {d : Nat} {σ : xS} {st : List Value} {Q : xR → xS → Prop} {l0 l1 l2 : Option Value} {a0 : Nat} {a1 : Int32} : G (d + 1) 30 54 [l0, l1, l2] (.int a1 :: .ref a0 :: st) σ Q ↔ xcat st ≤ 8 ∧ Cl d 223 [.ref a0, .int a1] σ (Gk (d + 1) 30 54 [l0, l1, l2] st Q) := gs_call f_30_54 ((xinv_call (i := 54) (n := 139) (ls := [l0, l1, l2]) (kind := 1) (σ := σ) (by decide)).trans (xcall_st [.int a1, .ref a0] rfl (by decide) (show (2 : Nat) ≤ 4 by decide)))
theorem f_30_55 : ft 30 55 = some (100, .aload_n 0, []) := rfl
theorem s_30_55 {d : Nat} {σ : xS} {st : List Value} {Q : xR → xS → Prop} {l1 l2 : Option Value} {x : Nat} : G d 30 55 [some (.ref x), l1, l2] st σ Q ↔ G d 30 56 [some (.ref x), l1, l2] (.ref x :: st) σ Q := gs_go f_30_55 rfl
theorem f_30_56 : ft 30 56 = some (101, .getfield 27, [4, 5, 0, 152]) := rfl
theorem s_30_56 {d : Nat} {t : yT} {st : List Value} {Q : xR → xS → Prop} {l0 l1 l2 : Option Value} {a : Nat} (ho : yisO 4 a) : G d 30 56 [l0, l1, l2] (.ref a :: st) (yemb t) Q ↔ G d 30 57 [l0, l1, l2] (.ref (a + 6) :: st) (yemb t) Q := gs_getf (c := 4) (j := 5) (q := .c (a + 6)) f_30_56 ho rfl
theorem f_30_57 : ft 30 57 = some (104, .iconst 0, []) := rfl
theorem s_30_57 {d : Nat} {σ : xS} {st : List Value} {Q : xR → xS → Prop} {l0 l1 l2 : Option Value} : G d 30 57 [l0, l1, l2] st σ Q ↔ G d 30 58 [l0, l1, l2] (.int (0) :: st) σ Q := gs_go f_30_57 rfl
theorem f_30_58 : ft 30 58 = some (105, .invokestatic 72, [223, 2, 1, 139]) := rfl
theorem s_30_58 {d : Nat} {σ : xS} {st : List Value} {Q : xR → xS → Prop} {l0 l1 l2 : Option Value} {a0 : Nat} {a1 : Int32} : G (d + 1) 30 58 [l0, l1, l2] (.int a1 :: .ref a0 :: st) σ Q ↔ xcat st ≤ 8 ∧ Cl d 223 [.ref a0, .int a1] σ (Gk (d + 1) 30 58 [l0, l1, l2] st Q) := gs_call f_30_58 ((xinv_call (i := 58) (n := 139) (ls := [l0, l1, l2]) (kind := 1) (σ := σ) (by decide)).trans (xcall_st [.int a1, .ref a0] rfl (by decide) (show (2 : Nat) ≤ 4 by decide)))
theorem f_30_59 : ft 30 59 = some (108, .aload_n 0, []) := rfl
theorem s_30_59 {d : Nat} {σ : xS} {st : List Value} {Q : xR → xS → Prop} {l1 l2 : Option Value} {x : Nat} : G d 30 59 [some (.ref x), l1, l2] st σ Q ↔ G d 30 60 [some (.ref x), l1, l2] (.ref x :: st) σ Q := gs_go f_30_59 rfl
theorem f_30_60 : ft 30 60 = some (109, .getfield 30, [4, 6, 0, 154]) := rfl
theorem s_30_60 {d : Nat} {t : yT} {st : List Value} {Q : xR → xS → Prop} {l0 l1 l2 : Option Value} {a : Nat} (ho : yisO 4 a) : G d 30 60 [l0, l1, l2] (.ref a :: st) (yemb t) Q ↔ G d 30 61 [l0, l1, l2] (.ref (a + 7) :: st) (yemb t) Q := gs_getf (c := 4) (j := 6) (q := .c (a + 7)) f_30_60 ho rfl
theorem f_30_61 : ft 30 61 = some (112, .iconst (-1), []) := rfl
theorem s_30_61 {d : Nat} {σ : xS} {st : List Value} {Q : xR → xS → Prop} {l0 l1 l2 : Option Value} : G d 30 61 [l0, l1, l2] st σ Q ↔ G d 30 62 [l0, l1, l2] (.int (-1) :: st) σ Q := gs_go f_30_61 rfl
theorem f_30_62 : ft 30 62 = some (113, .invokestatic 72, [223, 2, 1, 139]) := rfl
theorem s_30_62 {d : Nat} {σ : xS} {st : List Value} {Q : xR → xS → Prop} {l0 l1 l2 : Option Value} {a0 : Nat} {a1 : Int32} : G (d + 1) 30 62 [l0, l1, l2] (.int a1 :: .ref a0 :: st) σ Q ↔ xcat st ≤ 8 ∧ Cl d 223 [.ref a0, .int a1] σ (Gk (d + 1) 30 62 [l0, l1, l2] st Q) := gs_call f_30_62 ((xinv_call (i := 62) (n := 139) (ls := [l0, l1, l2]) (kind := 1) (σ := σ) (by decide)).trans (xcall_st [.int a1, .ref a0] rfl (by decide) (show (2 : Nat) ≤ 4 by decide)))
theorem f_30_63 : ft 30 63 = some (116, .return_, []) := rfl
theorem s_30_63 {d : Nat} {σ : xS} {ls : xL} {Q : xR → xS → Prop} : G d 30 63 ls [] σ Q ↔ Q (.inl none) σ := gs_ret f_30_63 rfl
theorem f_31_0 : ft 31 0 = some (0, .aload_n 0, []) := rfl
theorem s_31_0 {d : Nat} {σ : xS} {st : List Value} {Q : xR → xS → Prop} {l1 : Option Value} {x : Nat} : G d 31 0 [some (.ref x), l1] st σ Q ↔ G d 31 1 [some (.ref x), l1] (.ref x :: st) σ Q := gs_go f_31_0 rfl
theorem f_31_1 : ft 31 1 = some (1, .aload_n 1, []) := rfl
theorem s_31_1 {d : Nat} {σ : xS} {st : List Value} {Q : xR → xS → Prop} {l0 : Option Value} {x : Nat} : G d 31 1 [l0, some (.ref x)] st σ Q ↔ G d 31 2 [l0, some (.ref x)] (.ref x :: st) σ Q := gs_go f_31_1 rfl
theorem f_31_2 : ft 31 2 = some (2, .getfield 46, [4, 9, 0, 160]) := rfl
theorem s_31_2 {d : Nat} {t : yT} {st : List Value} {Q : xR → xS → Prop} {l0 l1 : Option Value} {a : Nat} (ho : yisO 4 a) : G d 31 2 [l0, l1] (.ref a :: st) (yemb t) Q ↔ G d 31 3 [l0, l1] (.int (t.A a 9) :: st) (yemb t) Q := gs_getf (c := 4) (j := 9) (q := .i) f_31_2 ho rfl
theorem f_31_3 : ft 31 3 = some (5, .putfield 46, [4, 9, 0, 160]) := rfl
theorem s_31_3 {d : Nat} {t : yT} {st : List Value} {Q : xR → xS → Prop} {l0 l1 : Option Value} {a : Nat} {x : Int32} (ho : yisO 4 a) : G d 31 3 [l0, l1] (.int x :: .ref a :: st) (yemb t) Q ↔ G d 31 4 [l0, l1] st (yemb (t.s1 a 9 x)) Q := gs_putI (c := 4) (j := 9) f_31_3 (fun _ => rfl) rfl rfl ho
theorem f_31_4 : ft 31 4 = some (8, .aload_n 0, []) := rfl
theorem s_31_4 {d : Nat} {σ : xS} {st : List Value} {Q : xR → xS → Prop} {l1 : Option Value} {x : Nat} : G d 31 4 [some (.ref x), l1] st σ Q ↔ G d 31 5 [some (.ref x), l1] (.ref x :: st) σ Q := gs_go f_31_4 rfl
theorem f_31_5 : ft 31 5 = some (9, .aload_n 1, []) := rfl
theorem s_31_5 {d : Nat} {σ : xS} {st : List Value} {Q : xR → xS → Prop} {l0 : Option Value} {x : Nat} : G d 31 5 [l0, some (.ref x)] st σ Q ↔ G d 31 6 [l0, some (.ref x)] (.ref x :: st) σ Q := gs_go f_31_5 rfl
theorem f_31_6 : ft 31 6 = some (10, .getfield 50, [4, 10, 0, 163]) := rfl
theorem s_31_6 {d : Nat} {t : yT} {st : List Value} {Q : xR → xS → Prop} {l0 l1 : Option Value} {a : Nat} (ho : yisO 4 a) : G d 31 6 [l0, l1] (.ref a :: st) (yemb t) Q ↔ G d 31 7 [l0, l1] (.int (t.A a 10) :: st) (yemb t) Q := gs_getf (c := 4) (j := 10) (q := .i) f_31_6 ho rfl
theorem f_31_7 : ft 31 7 = some (13, .putfield 50, [4, 10, 0, 163]) := rfl
theorem s_31_7 {d : Nat} {t : yT} {st : List Value} {Q : xR → xS → Prop} {l0 l1 : Option Value} {a : Nat} {x : Int32} (ho : yisO 4 a) : G d 31 7 [l0, l1] (.int x :: .ref a :: st) (yemb t) Q ↔ G d 31 8 [l0, l1] st (yemb (t.s1 a 10 x)) Q := gs_putI (c := 4) (j := 10) f_31_7 (fun _ => rfl) rfl rfl ho
theorem f_31_8 : ft 31 8 = some (16, .aload_n 0, []) := rfl
theorem s_31_8 {d : Nat} {σ : xS} {st : List Value} {Q : xR → xS → Prop} {l1 : Option Value} {x : Nat} : G d 31 8 [some (.ref x), l1] st σ Q ↔ G d 31 9 [some (.ref x), l1] (.ref x :: st) σ Q := gs_go f_31_8 rfl
theorem f_31_9 : ft 31 9 = some (17, .aload_n 1, []) := rfl
theorem s_31_9 {d : Nat} {σ : xS} {st : List Value} {Q : xR → xS → Prop} {l0 : Option Value} {x : Nat} : G d 31 9 [l0, some (.ref x)] st σ Q ↔ G d 31 10 [l0, some (.ref x)] (.ref x :: st) σ Q := gs_go f_31_9 rfl
theorem f_31_10 : ft 31 10 = some (18, .getfield 53, [4, 11, 0, 165]) := rfl
theorem s_31_10 {d : Nat} {t : yT} {st : List Value} {Q : xR → xS → Prop} {l0 l1 : Option Value} {a : Nat} (ho : yisO 4 a) : G d 31 10 [l0, l1] (.ref a :: st) (yemb t) Q ↔ G d 31 11 [l0, l1] (.int (t.A a 11) :: st) (yemb t) Q := gs_getf (c := 4) (j := 11) (q := .i) f_31_10 ho rfl
theorem f_31_11 : ft 31 11 = some (21, .putfield 53, [4, 11, 0, 165]) := rfl
theorem s_31_11 {d : Nat} {t : yT} {st : List Value} {Q : xR → xS → Prop} {l0 l1 : Option Value} {a : Nat} {x : Int32} (ho : yisO 4 a) : G d 31 11 [l0, l1] (.int x :: .ref a :: st) (yemb t) Q ↔ G d 31 12 [l0, l1] st (yemb (t.s1 a 11 x)) Q := gs_putI (c := 4) (j := 11) f_31_11 (fun _ => rfl) rfl rfl ho
theorem f_31_12 : ft 31 12 = some (24, .aload_n 0, []) := rfl
theorem s_31_12 {d : Nat} {σ : xS} {st : List Value} {Q : xR → xS → Prop} {l1 : Option Value} {x : Nat} : G d 31 12 [some (.ref x), l1] st σ Q ↔ G d 31 13 [some (.ref x), l1] (.ref x :: st) σ Q := gs_go f_31_12 rfl
theorem f_31_13 : ft 31 13 = some (25, .aload_n 1, []) := rfl
theorem s_31_13 {d : Nat} {σ : xS} {st : List Value} {Q : xR → xS → Prop} {l0 : Option Value} {x : Nat} : G d 31 13 [l0, some (.ref x)] st σ Q ↔ G d 31 14 [l0, some (.ref x)] (.ref x :: st) σ Q := gs_go f_31_13 rfl
theorem f_31_14 : ft 31 14 = some (26, .getfield 56, [4, 13, 0, 172]) := rfl
theorem s_31_14 {d : Nat} {t : yT} {st : List Value} {Q : xR → xS → Prop} {l0 l1 : Option Value} {a : Nat} (ho : yisO 4 a) : G d 31 14 [l0, l1] (.ref a :: st) (yemb t) Q ↔ G d 31 15 [l0, l1] (.int (t.A a 13) :: st) (yemb t) Q := gs_getf (c := 4) (j := 13) (q := .i) f_31_14 ho rfl
theorem f_31_15 : ft 31 15 = some (29, .putfield 56, [4, 13, 0, 172]) := rfl
theorem s_31_15 {d : Nat} {t : yT} {st : List Value} {Q : xR → xS → Prop} {l0 l1 : Option Value} {a : Nat} {x : Int32} (ho : yisO 4 a) : G d 31 15 [l0, l1] (.int x :: .ref a :: st) (yemb t) Q ↔ G d 31 16 [l0, l1] st (yemb (t.s1 a 13 x)) Q := gs_putI (c := 4) (j := 13) f_31_15 (fun _ => rfl) rfl rfl ho
theorem f_31_16 : ft 31 16 = some (32, .aload_n 0, []) := rfl
theorem s_31_16 {d : Nat} {σ : xS} {st : List Value} {Q : xR → xS → Prop} {l1 : Option Value} {x : Nat} : G d 31 16 [some (.ref x), l1] st σ Q ↔ G d 31 17 [some (.ref x), l1] (.ref x :: st) σ Q := gs_go f_31_16 rfl
theorem f_31_17 : ft 31 17 = some (33, .aload_n 1, []) := rfl
theorem s_31_17 {d : Nat} {σ : xS} {st : List Value} {Q : xR → xS → Prop} {l0 : Option Value} {x : Nat} : G d 31 17 [l0, some (.ref x)] st σ Q ↔ G d 31 18 [l0, some (.ref x)] (.ref x :: st) σ Q := gs_go f_31_17 rfl
theorem f_31_18 : ft 31 18 = some (34, .getfield 59, [4, 14, 0, 174]) := rfl
theorem s_31_18 {d : Nat} {t : yT} {st : List Value} {Q : xR → xS → Prop} {l0 l1 : Option Value} {a : Nat} (ho : yisO 4 a) : G d 31 18 [l0, l1] (.ref a :: st) (yemb t) Q ↔ G d 31 19 [l0, l1] (.int (t.A a 14) :: st) (yemb t) Q := gs_getf (c := 4) (j := 14) (q := .i) f_31_18 ho rfl
theorem f_31_19 : ft 31 19 = some (37, .putfield 59, [4, 14, 0, 174]) := rfl
theorem s_31_19 {d : Nat} {t : yT} {st : List Value} {Q : xR → xS → Prop} {l0 l1 : Option Value} {a : Nat} {x : Int32} (ho : yisO 4 a) : G d 31 19 [l0, l1] (.int x :: .ref a :: st) (yemb t) Q ↔ G d 31 20 [l0, l1] st (yemb (t.s1 a 14 x)) Q := gs_putI (c := 4) (j := 14) f_31_19 (fun _ => rfl) rfl rfl ho
theorem f_31_20 : ft 31 20 = some (40, .aload_n 0, []) := rfl
theorem s_31_20 {d : Nat} {σ : xS} {st : List Value} {Q : xR → xS → Prop} {l1 : Option Value} {x : Nat} : G d 31 20 [some (.ref x), l1] st σ Q ↔ G d 31 21 [some (.ref x), l1] (.ref x :: st) σ Q := gs_go f_31_20 rfl
theorem f_31_21 : ft 31 21 = some (41, .aload_n 1, []) := rfl
theorem s_31_21 {d : Nat} {σ : xS} {st : List Value} {Q : xR → xS → Prop} {l0 : Option Value} {x : Nat} : G d 31 21 [l0, some (.ref x)] st σ Q ↔ G d 31 22 [l0, some (.ref x)] (.ref x :: st) σ Q := gs_go f_31_21 rfl
theorem f_31_22 : ft 31 22 = some (42, .getfield 62, [4, 15, 0, 176]) := rfl
theorem s_31_22 {d : Nat} {t : yT} {st : List Value} {Q : xR → xS → Prop} {l0 l1 : Option Value} {a : Nat} (ho : yisO 4 a) : G d 31 22 [l0, l1] (.ref a :: st) (yemb t) Q ↔ G d 31 23 [l0, l1] (.long (t.L a 15) :: st) (yemb t) Q := gs_getf (c := 4) (j := 15) (q := .l) f_31_22 ho rfl
theorem f_31_23 : ft 31 23 = some (45, .putfield 62, [4, 15, 0, 176]) := rfl
theorem s_31_23 {d : Nat} {t : yT} {st : List Value} {Q : xR → xS → Prop} {l0 l1 : Option Value} {a : Nat} {x : Int64} (ho : yisO 4 a) : G d 31 23 [l0, l1] (.long x :: .ref a :: st) (yemb t) Q ↔ G d 31 24 [l0, l1] st (yemb (t.sL a 15 x)) Q := gs_putL (c := 4) (j := 15) f_31_23 (fun _ => rfl) rfl rfl ho
theorem f_31_24 : ft 31 24 = some (48, .aload_n 0, []) := rfl
theorem s_31_24 {d : Nat} {σ : xS} {st : List Value} {Q : xR → xS → Prop} {l1 : Option Value} {x : Nat} : G d 31 24 [some (.ref x), l1] st σ Q ↔ G d 31 25 [some (.ref x), l1] (.ref x :: st) σ Q := gs_go f_31_24 rfl
theorem f_31_25 : ft 31 25 = some (49, .aload_n 1, []) := rfl
theorem s_31_25 {d : Nat} {σ : xS} {st : List Value} {Q : xR → xS → Prop} {l0 : Option Value} {x : Nat} : G d 31 25 [l0, some (.ref x)] st σ Q ↔ G d 31 26 [l0, some (.ref x)] (.ref x :: st) σ Q := gs_go f_31_25 rfl
theorem f_31_26 : ft 31 26 = some (50, .getfield 66, [4, 16, 0, 178]) := rfl
theorem s_31_26 {d : Nat} {t : yT} {st : List Value} {Q : xR → xS → Prop} {l0 l1 : Option Value} {a : Nat} (ho : yisO 4 a) : G d 31 26 [l0, l1] (.ref a :: st) (yemb t) Q ↔ G d 31 27 [l0, l1] (.ref (t.R a) :: st) (yemb t) Q := gs_getf (c := 4) (j := 16) (q := .m) f_31_26 ho rfl
theorem f_31_27 : ft 31 27 = some (53, .putfield 66, [4, 16, 0, 178]) := rfl
theorem s_31_27 {d : Nat} {t : yT} {st : List Value} {Q : xR → xS → Prop} {l0 l1 : Option Value} {a x : Nat} (ho : yisO 4 a) : G d 31 27 [l0, l1] (.ref x :: .ref a :: st) (yemb t) Q ↔ G d 31 28 [l0, l1] st (yemb (t.sR a x)) Q := gs_putR (c := 4) (j := 16) f_31_27 (fun _ => rfl) yum4 rfl rfl ho
theorem f_31_28 : ft 31 28 = some (56, .aload_n 0, []) := rfl
theorem s_31_28 {d : Nat} {σ : xS} {st : List Value} {Q : xR → xS → Prop} {l1 : Option Value} {x : Nat} : G d 31 28 [some (.ref x), l1] st σ Q ↔ G d 31 29 [some (.ref x), l1] (.ref x :: st) σ Q := gs_go f_31_28 rfl
theorem f_31_29 : ft 31 29 = some (57, .aload_n 1, []) := rfl
theorem s_31_29 {d : Nat} {σ : xS} {st : List Value} {Q : xR → xS → Prop} {l0 : Option Value} {x : Nat} : G d 31 29 [l0, some (.ref x)] st σ Q ↔ G d 31 30 [l0, some (.ref x)] (.ref x :: st) σ Q := gs_go f_31_29 rfl
theorem f_31_30 : ft 31 30 = some (58, .getfield 69, [4, 12, 0, 169]) := rfl
theorem s_31_30 {d : Nat} {t : yT} {st : List Value} {Q : xR → xS → Prop} {l0 l1 : Option Value} {a : Nat} (ho : yisO 4 a) : G d 31 30 [l0, l1] (.ref a :: st) (yemb t) Q ↔ G d 31 31 [l0, l1] (.int (t.A a 12) :: st) (yemb t) Q := gs_getf (c := 4) (j := 12) (q := .i) f_31_30 ho rfl
theorem f_31_31 : ft 31 31 = some (61, .putfield 69, [4, 12, 0, 169]) := rfl
theorem s_31_31 {d : Nat} {t : yT} {st : List Value} {Q : xR → xS → Prop} {l0 l1 : Option Value} {a : Nat} {x : Int32} (ho : yisO 4 a) : G d 31 31 [l0, l1] (.int x :: .ref a :: st) (yemb t) Q ↔ G d 31 32 [l0, l1] st (yemb (t.s1 a 12 x)) Q := gs_putI (c := 4) (j := 12) f_31_31 (fun _ => rfl) rfl rfl ho
theorem f_31_32 : ft 31 32 = some (64, .aload_n 1, []) := rfl
theorem s_31_32 {d : Nat} {σ : xS} {st : List Value} {Q : xR → xS → Prop} {l0 : Option Value} {x : Nat} : G d 31 32 [l0, some (.ref x)] st σ Q ↔ G d 31 33 [l0, some (.ref x)] (.ref x :: st) σ Q := gs_go f_31_32 rfl
theorem f_31_33 : ft 31 33 = some (65, .getfield 33, [4, 7, 0, 156]) := rfl
theorem s_31_33 {d : Nat} {t : yT} {st : List Value} {Q : xR → xS → Prop} {l0 l1 : Option Value} {a : Nat} (ho : yisO 4 a) : G d 31 33 [l0, l1] (.ref a :: st) (yemb t) Q ↔ G d 31 34 [l0, l1] (.ref (a + 8) :: st) (yemb t) Q := gs_getf (c := 4) (j := 7) (q := .c (a + 8)) f_31_33 ho rfl
theorem f_31_34 : ft 31 34 = some (68, .iconst 0, []) := rfl
theorem s_31_34 {d : Nat} {σ : xS} {st : List Value} {Q : xR → xS → Prop} {l0 l1 : Option Value} : G d 31 34 [l0, l1] st σ Q ↔ G d 31 35 [l0, l1] (.int (0) :: st) σ Q := gs_go f_31_34 rfl
theorem f_31_35 : ft 31 35 = some (69, .aload_n 0, []) := rfl
theorem s_31_35 {d : Nat} {σ : xS} {st : List Value} {Q : xR → xS → Prop} {l1 : Option Value} {x : Nat} : G d 31 35 [some (.ref x), l1] st σ Q ↔ G d 31 36 [some (.ref x), l1] (.ref x :: st) σ Q := gs_go f_31_35 rfl
theorem f_31_36 : ft 31 36 = some (70, .getfield 33, [4, 7, 0, 156]) := rfl
theorem s_31_36 {d : Nat} {t : yT} {st : List Value} {Q : xR → xS → Prop} {l0 l1 : Option Value} {a : Nat} (ho : yisO 4 a) : G d 31 36 [l0, l1] (.ref a :: st) (yemb t) Q ↔ G d 31 37 [l0, l1] (.ref (a + 8) :: st) (yemb t) Q := gs_getf (c := 4) (j := 7) (q := .c (a + 8)) f_31_36 ho rfl
theorem f_31_37 : ft 31 37 = some (73, .iconst 0, []) := rfl
theorem s_31_37 {d : Nat} {σ : xS} {st : List Value} {Q : xR → xS → Prop} {l0 l1 : Option Value} : G d 31 37 [l0, l1] st σ Q ↔ G d 31 38 [l0, l1] (.int (0) :: st) σ Q := gs_go f_31_37 rfl
theorem f_31_38 : ft 31 38 = some (74, .bipush 6, []) := rfl
theorem s_31_38 {d : Nat} {σ : xS} {st : List Value} {Q : xR → xS → Prop} {l0 l1 : Option Value} : G d 31 38 [l0, l1] st σ Q ↔ G d 31 39 [l0, l1] (.int (6) :: st) σ Q := gs_go f_31_38 rfl
theorem f_31_39 : ft 31 39 = some (76, .invokestatic 78, [0, 5, 21, 376]) := rfl
theorem f_31_40 : ft 31 40 = some (79, .aload_n 1, []) := rfl
theorem s_31_40 {d : Nat} {σ : xS} {st : List Value} {Q : xR → xS → Prop} {l0 : Option Value} {x : Nat} : G d 31 40 [l0, some (.ref x)] st σ Q ↔ G d 31 41 [l0, some (.ref x)] (.ref x :: st) σ Q := gs_go f_31_40 rfl
theorem f_31_41 : ft 31 41 = some (80, .getfield 36, [4, 8, 0, 158]) := rfl
theorem s_31_41 {d : Nat} {t : yT} {st : List Value} {Q : xR → xS → Prop} {l0 l1 : Option Value} {a : Nat} (ho : yisO 4 a) : G d 31 41 [l0, l1] (.ref a :: st) (yemb t) Q ↔ G d 31 42 [l0, l1] (.ref (a + 9) :: st) (yemb t) Q := gs_getf (c := 4) (j := 8) (q := .c (a + 9)) f_31_41 ho rfl
theorem f_31_42 : ft 31 42 = some (83, .iconst 0, []) := rfl
theorem s_31_42 {d : Nat} {σ : xS} {st : List Value} {Q : xR → xS → Prop} {l0 l1 : Option Value} : G d 31 42 [l0, l1] st σ Q ↔ G d 31 43 [l0, l1] (.int (0) :: st) σ Q := gs_go f_31_42 rfl
theorem f_31_43 : ft 31 43 = some (84, .aload_n 0, []) := rfl
theorem s_31_43 {d : Nat} {σ : xS} {st : List Value} {Q : xR → xS → Prop} {l1 : Option Value} {x : Nat} : G d 31 43 [some (.ref x), l1] st σ Q ↔ G d 31 44 [some (.ref x), l1] (.ref x :: st) σ Q := gs_go f_31_43 rfl
theorem f_31_44 : ft 31 44 = some (85, .getfield 36, [4, 8, 0, 158]) := rfl
theorem s_31_44 {d : Nat} {t : yT} {st : List Value} {Q : xR → xS → Prop} {l0 l1 : Option Value} {a : Nat} (ho : yisO 4 a) : G d 31 44 [l0, l1] (.ref a :: st) (yemb t) Q ↔ G d 31 45 [l0, l1] (.ref (a + 9) :: st) (yemb t) Q := gs_getf (c := 4) (j := 8) (q := .c (a + 9)) f_31_44 ho rfl
theorem f_31_45 : ft 31 45 = some (88, .iconst 0, []) := rfl
theorem s_31_45 {d : Nat} {σ : xS} {st : List Value} {Q : xR → xS → Prop} {l0 l1 : Option Value} : G d 31 45 [l0, l1] st σ Q ↔ G d 31 46 [l0, l1] (.int (0) :: st) σ Q := gs_go f_31_45 rfl
theorem f_31_46 : ft 31 46 = some (89, .bipush 6, []) := rfl
theorem s_31_46 {d : Nat} {σ : xS} {st : List Value} {Q : xR → xS → Prop} {l0 l1 : Option Value} : G d 31 46 [l0, l1] st σ Q ↔ G d 31 47 [l0, l1] (.int (6) :: st) σ Q := gs_go f_31_46 rfl
theorem f_31_47 : ft 31 47 = some (91, .invokestatic 78, [0, 5, 21, 376]) := rfl
theorem f_31_48 : ft 31 48 = some (94, .aload_n 1, []) := rfl
theorem s_31_48 {d : Nat} {σ : xS} {st : List Value} {Q : xR → xS → Prop} {l0 : Option Value} {x : Nat} : G d 31 48 [l0, some (.ref x)] st σ Q ↔ G d 31 49 [l0, some (.ref x)] (.ref x :: st) σ Q := gs_go f_31_48 rfl
theorem f_31_49 : ft 31 49 = some (95, .getfield 9, [4, 0, 0, 142]) := rfl
theorem s_31_49 {d : Nat} {t : yT} {st : List Value} {Q : xR → xS → Prop} {l0 l1 : Option Value} {a : Nat} (ho : yisO 4 a) : G d 31 49 [l0, l1] (.ref a :: st) (yemb t) Q ↔ G d 31 50 [l0, l1] (.ref (a + 1) :: st) (yemb t) Q := gs_getf (c := 4) (j := 0) (q := .c (a + 1)) f_31_49 ho rfl
theorem f_31_50 : ft 31 50 = some (98, .iconst 0, []) := rfl
theorem s_31_50 {d : Nat} {σ : xS} {st : List Value} {Q : xR → xS → Prop} {l0 l1 : Option Value} : G d 31 50 [l0, l1] st σ Q ↔ G d 31 51 [l0, l1] (.int (0) :: st) σ Q := gs_go f_31_50 rfl
theorem f_31_51 : ft 31 51 = some (99, .aload_n 0, []) := rfl
theorem s_31_51 {d : Nat} {σ : xS} {st : List Value} {Q : xR → xS → Prop} {l1 : Option Value} {x : Nat} : G d 31 51 [some (.ref x), l1] st σ Q ↔ G d 31 52 [some (.ref x), l1] (.ref x :: st) σ Q := gs_go f_31_51 rfl
theorem f_31_52 : ft 31 52 = some (100, .getfield 9, [4, 0, 0, 142]) := rfl
theorem s_31_52 {d : Nat} {t : yT} {st : List Value} {Q : xR → xS → Prop} {l0 l1 : Option Value} {a : Nat} (ho : yisO 4 a) : G d 31 52 [l0, l1] (.ref a :: st) (yemb t) Q ↔ G d 31 53 [l0, l1] (.ref (a + 1) :: st) (yemb t) Q := gs_getf (c := 4) (j := 0) (q := .c (a + 1)) f_31_52 ho rfl
theorem f_31_53 : ft 31 53 = some (103, .iconst 0, []) := rfl
theorem s_31_53 {d : Nat} {σ : xS} {st : List Value} {Q : xR → xS → Prop} {l0 l1 : Option Value} : G d 31 53 [l0, l1] st σ Q ↔ G d 31 54 [l0, l1] (.int (0) :: st) σ Q := gs_go f_31_53 rfl
theorem f_31_54 : ft 31 54 = some (104, .bipush 40, []) := rfl
theorem s_31_54 {d : Nat} {σ : xS} {st : List Value} {Q : xR → xS → Prop} {l0 l1 : Option Value} : G d 31 54 [l0, l1] st σ Q ↔ G d 31 55 [l0, l1] (.int (40) :: st) σ Q := gs_go f_31_54 rfl
theorem f_31_55 : ft 31 55 = some (106, .invokestatic 78, [0, 5, 21, 376]) := rfl
theorem f_31_56 : ft 31 56 = some (109, .aload_n 1, []) := rfl
theorem s_31_56 {d : Nat} {σ : xS} {st : List Value} {Q : xR → xS → Prop} {l0 : Option Value} {x : Nat} : G d 31 56 [l0, some (.ref x)] st σ Q ↔ G d 31 57 [l0, some (.ref x)] (.ref x :: st) σ Q := gs_go f_31_56 rfl
theorem f_31_57 : ft 31 57 = some (110, .getfield 15, [4, 1, 0, 144]) := rfl
theorem s_31_57 {d : Nat} {t : yT} {st : List Value} {Q : xR → xS → Prop} {l0 l1 : Option Value} {a : Nat} (ho : yisO 4 a) : G d 31 57 [l0, l1] (.ref a :: st) (yemb t) Q ↔ G d 31 58 [l0, l1] (.ref (a + 2) :: st) (yemb t) Q := gs_getf (c := 4) (j := 1) (q := .c (a + 2)) f_31_57 ho rfl
theorem f_31_58 : ft 31 58 = some (113, .iconst 0, []) := rfl
theorem s_31_58 {d : Nat} {σ : xS} {st : List Value} {Q : xR → xS → Prop} {l0 l1 : Option Value} : G d 31 58 [l0, l1] st σ Q ↔ G d 31 59 [l0, l1] (.int (0) :: st) σ Q := gs_go f_31_58 rfl
theorem f_31_59 : ft 31 59 = some (114, .aload_n 0, []) := rfl
theorem s_31_59 {d : Nat} {σ : xS} {st : List Value} {Q : xR → xS → Prop} {l1 : Option Value} {x : Nat} : G d 31 59 [some (.ref x), l1] st σ Q ↔ G d 31 60 [some (.ref x), l1] (.ref x :: st) σ Q := gs_go f_31_59 rfl
theorem f_31_60 : ft 31 60 = some (115, .getfield 15, [4, 1, 0, 144]) := rfl
theorem s_31_60 {d : Nat} {t : yT} {st : List Value} {Q : xR → xS → Prop} {l0 l1 : Option Value} {a : Nat} (ho : yisO 4 a) : G d 31 60 [l0, l1] (.ref a :: st) (yemb t) Q ↔ G d 31 61 [l0, l1] (.ref (a + 2) :: st) (yemb t) Q := gs_getf (c := 4) (j := 1) (q := .c (a + 2)) f_31_60 ho rfl
theorem f_31_61 : ft 31 61 = some (118, .iconst 0, []) := rfl
theorem s_31_61 {d : Nat} {σ : xS} {st : List Value} {Q : xR → xS → Prop} {l0 l1 : Option Value} : G d 31 61 [l0, l1] st σ Q ↔ G d 31 62 [l0, l1] (.int (0) :: st) σ Q := gs_go f_31_61 rfl
theorem f_31_62 : ft 31 62 = some (119, .bipush 40, []) := rfl
theorem s_31_62 {d : Nat} {σ : xS} {st : List Value} {Q : xR → xS → Prop} {l0 l1 : Option Value} : G d 31 62 [l0, l1] st σ Q ↔ G d 31 63 [l0, l1] (.int (40) :: st) σ Q := gs_go f_31_62 rfl
theorem f_31_63 : ft 31 63 = some (121, .invokestatic 78, [0, 5, 21, 376]) := rfl
theorem f_31_64 : ft 31 64 = some (124, .aload_n 1, []) := rfl
theorem s_31_64 {d : Nat} {σ : xS} {st : List Value} {Q : xR → xS → Prop} {l0 : Option Value} {x : Nat} : G d 31 64 [l0, some (.ref x)] st σ Q ↔ G d 31 65 [l0, some (.ref x)] (.ref x :: st) σ Q := gs_go f_31_64 rfl
theorem f_31_65 : ft 31 65 = some (125, .getfield 18, [4, 2, 0, 146]) := rfl
theorem s_31_65 {d : Nat} {t : yT} {st : List Value} {Q : xR → xS → Prop} {l0 l1 : Option Value} {a : Nat} (ho : yisO 4 a) : G d 31 65 [l0, l1] (.ref a :: st) (yemb t) Q ↔ G d 31 66 [l0, l1] (.ref (a + 3) :: st) (yemb t) Q := gs_getf (c := 4) (j := 2) (q := .c (a + 3)) f_31_65 ho rfl
theorem f_31_66 : ft 31 66 = some (128, .iconst 0, []) := rfl
theorem s_31_66 {d : Nat} {σ : xS} {st : List Value} {Q : xR → xS → Prop} {l0 l1 : Option Value} : G d 31 66 [l0, l1] st σ Q ↔ G d 31 67 [l0, l1] (.int (0) :: st) σ Q := gs_go f_31_66 rfl
theorem f_31_67 : ft 31 67 = some (129, .aload_n 0, []) := rfl
theorem s_31_67 {d : Nat} {σ : xS} {st : List Value} {Q : xR → xS → Prop} {l1 : Option Value} {x : Nat} : G d 31 67 [some (.ref x), l1] st σ Q ↔ G d 31 68 [some (.ref x), l1] (.ref x :: st) σ Q := gs_go f_31_67 rfl
theorem f_31_68 : ft 31 68 = some (130, .getfield 18, [4, 2, 0, 146]) := rfl
theorem s_31_68 {d : Nat} {t : yT} {st : List Value} {Q : xR → xS → Prop} {l0 l1 : Option Value} {a : Nat} (ho : yisO 4 a) : G d 31 68 [l0, l1] (.ref a :: st) (yemb t) Q ↔ G d 31 69 [l0, l1] (.ref (a + 3) :: st) (yemb t) Q := gs_getf (c := 4) (j := 2) (q := .c (a + 3)) f_31_68 ho rfl
theorem f_31_69 : ft 31 69 = some (133, .iconst 0, []) := rfl
theorem s_31_69 {d : Nat} {σ : xS} {st : List Value} {Q : xR → xS → Prop} {l0 l1 : Option Value} : G d 31 69 [l0, l1] st σ Q ↔ G d 31 70 [l0, l1] (.int (0) :: st) σ Q := gs_go f_31_69 rfl
theorem f_31_70 : ft 31 70 = some (134, .bipush 40, []) := rfl
theorem s_31_70 {d : Nat} {σ : xS} {st : List Value} {Q : xR → xS → Prop} {l0 l1 : Option Value} : G d 31 70 [l0, l1] st σ Q ↔ G d 31 71 [l0, l1] (.int (40) :: st) σ Q := gs_go f_31_70 rfl
theorem f_31_71 : ft 31 71 = some (136, .invokestatic 78, [0, 5, 21, 376]) := rfl
theorem f_31_72 : ft 31 72 = some (139, .aload_n 1, []) := rfl
theorem s_31_72 {d : Nat} {σ : xS} {st : List Value} {Q : xR → xS → Prop} {l0 : Option Value} {x : Nat} : G d 31 72 [l0, some (.ref x)] st σ Q ↔ G d 31 73 [l0, some (.ref x)] (.ref x :: st) σ Q := gs_go f_31_72 rfl
theorem f_31_73 : ft 31 73 = some (140, .getfield 21, [4, 3, 0, 148]) := rfl
theorem s_31_73 {d : Nat} {t : yT} {st : List Value} {Q : xR → xS → Prop} {l0 l1 : Option Value} {a : Nat} (ho : yisO 4 a) : G d 31 73 [l0, l1] (.ref a :: st) (yemb t) Q ↔ G d 31 74 [l0, l1] (.ref (a + 4) :: st) (yemb t) Q := gs_getf (c := 4) (j := 3) (q := .c (a + 4)) f_31_73 ho rfl
theorem f_31_74 : ft 31 74 = some (143, .iconst 0, []) := rfl
theorem s_31_74 {d : Nat} {σ : xS} {st : List Value} {Q : xR → xS → Prop} {l0 l1 : Option Value} : G d 31 74 [l0, l1] st σ Q ↔ G d 31 75 [l0, l1] (.int (0) :: st) σ Q := gs_go f_31_74 rfl
theorem f_31_75 : ft 31 75 = some (144, .aload_n 0, []) := rfl
theorem s_31_75 {d : Nat} {σ : xS} {st : List Value} {Q : xR → xS → Prop} {l1 : Option Value} {x : Nat} : G d 31 75 [some (.ref x), l1] st σ Q ↔ G d 31 76 [some (.ref x), l1] (.ref x :: st) σ Q := gs_go f_31_75 rfl
theorem f_31_76 : ft 31 76 = some (145, .getfield 21, [4, 3, 0, 148]) := rfl
theorem s_31_76 {d : Nat} {t : yT} {st : List Value} {Q : xR → xS → Prop} {l0 l1 : Option Value} {a : Nat} (ho : yisO 4 a) : G d 31 76 [l0, l1] (.ref a :: st) (yemb t) Q ↔ G d 31 77 [l0, l1] (.ref (a + 4) :: st) (yemb t) Q := gs_getf (c := 4) (j := 3) (q := .c (a + 4)) f_31_76 ho rfl
theorem f_31_77 : ft 31 77 = some (148, .iconst 0, []) := rfl
theorem s_31_77 {d : Nat} {σ : xS} {st : List Value} {Q : xR → xS → Prop} {l0 l1 : Option Value} : G d 31 77 [l0, l1] st σ Q ↔ G d 31 78 [l0, l1] (.int (0) :: st) σ Q := gs_go f_31_77 rfl
theorem f_31_78 : ft 31 78 = some (149, .bipush 40, []) := rfl
theorem s_31_78 {d : Nat} {σ : xS} {st : List Value} {Q : xR → xS → Prop} {l0 l1 : Option Value} : G d 31 78 [l0, l1] st σ Q ↔ G d 31 79 [l0, l1] (.int (40) :: st) σ Q := gs_go f_31_78 rfl
theorem f_31_79 : ft 31 79 = some (151, .invokestatic 78, [0, 5, 21, 376]) := rfl
theorem f_31_80 : ft 31 80 = some (154, .aload_n 1, []) := rfl
theorem s_31_80 {d : Nat} {σ : xS} {st : List Value} {Q : xR → xS → Prop} {l0 : Option Value} {x : Nat} : G d 31 80 [l0, some (.ref x)] st σ Q ↔ G d 31 81 [l0, some (.ref x)] (.ref x :: st) σ Q := gs_go f_31_80 rfl
theorem f_31_81 : ft 31 81 = some (155, .getfield 24, [4, 4, 0, 150]) := rfl
theorem s_31_81 {d : Nat} {t : yT} {st : List Value} {Q : xR → xS → Prop} {l0 l1 : Option Value} {a : Nat} (ho : yisO 4 a) : G d 31 81 [l0, l1] (.ref a :: st) (yemb t) Q ↔ G d 31 82 [l0, l1] (.ref (a + 5) :: st) (yemb t) Q := gs_getf (c := 4) (j := 4) (q := .c (a + 5)) f_31_81 ho rfl
theorem f_31_82 : ft 31 82 = some (158, .iconst 0, []) := rfl
theorem s_31_82 {d : Nat} {σ : xS} {st : List Value} {Q : xR → xS → Prop} {l0 l1 : Option Value} : G d 31 82 [l0, l1] st σ Q ↔ G d 31 83 [l0, l1] (.int (0) :: st) σ Q := gs_go f_31_82 rfl
theorem f_31_83 : ft 31 83 = some (159, .aload_n 0, []) := rfl
theorem s_31_83 {d : Nat} {σ : xS} {st : List Value} {Q : xR → xS → Prop} {l1 : Option Value} {x : Nat} : G d 31 83 [some (.ref x), l1] st σ Q ↔ G d 31 84 [some (.ref x), l1] (.ref x :: st) σ Q := gs_go f_31_83 rfl
theorem f_31_84 : ft 31 84 = some (160, .getfield 24, [4, 4, 0, 150]) := rfl
theorem s_31_84 {d : Nat} {t : yT} {st : List Value} {Q : xR → xS → Prop} {l0 l1 : Option Value} {a : Nat} (ho : yisO 4 a) : G d 31 84 [l0, l1] (.ref a :: st) (yemb t) Q ↔ G d 31 85 [l0, l1] (.ref (a + 5) :: st) (yemb t) Q := gs_getf (c := 4) (j := 4) (q := .c (a + 5)) f_31_84 ho rfl
theorem f_31_85 : ft 31 85 = some (163, .iconst 0, []) := rfl
theorem s_31_85 {d : Nat} {σ : xS} {st : List Value} {Q : xR → xS → Prop} {l0 l1 : Option Value} : G d 31 85 [l0, l1] st σ Q ↔ G d 31 86 [l0, l1] (.int (0) :: st) σ Q := gs_go f_31_85 rfl
theorem f_31_86 : ft 31 86 = some (164, .bipush 40, []) := rfl
theorem s_31_86 {d : Nat} {σ : xS} {st : List Value} {Q : xR → xS → Prop} {l0 l1 : Option Value} : G d 31 86 [l0, l1] st σ Q ↔ G d 31 87 [l0, l1] (.int (40) :: st) σ Q := gs_go f_31_86 rfl
theorem f_31_87 : ft 31 87 = some (166, .invokestatic 78, [0, 5, 21, 376]) := rfl
theorem f_31_88 : ft 31 88 = some (169, .aload_n 1, []) := rfl
theorem s_31_88 {d : Nat} {σ : xS} {st : List Value} {Q : xR → xS → Prop} {l0 : Option Value} {x : Nat} : G d 31 88 [l0, some (.ref x)] st σ Q ↔ G d 31 89 [l0, some (.ref x)] (.ref x :: st) σ Q := gs_go f_31_88 rfl
theorem f_31_89 : ft 31 89 = some (170, .getfield 27, [4, 5, 0, 152]) := rfl
theorem s_31_89 {d : Nat} {t : yT} {st : List Value} {Q : xR → xS → Prop} {l0 l1 : Option Value} {a : Nat} (ho : yisO 4 a) : G d 31 89 [l0, l1] (.ref a :: st) (yemb t) Q ↔ G d 31 90 [l0, l1] (.ref (a + 6) :: st) (yemb t) Q := gs_getf (c := 4) (j := 5) (q := .c (a + 6)) f_31_89 ho rfl
theorem f_31_90 : ft 31 90 = some (173, .iconst 0, []) := rfl
theorem s_31_90 {d : Nat} {σ : xS} {st : List Value} {Q : xR → xS → Prop} {l0 l1 : Option Value} : G d 31 90 [l0, l1] st σ Q ↔ G d 31 91 [l0, l1] (.int (0) :: st) σ Q := gs_go f_31_90 rfl
theorem f_31_91 : ft 31 91 = some (174, .aload_n 0, []) := rfl
theorem s_31_91 {d : Nat} {σ : xS} {st : List Value} {Q : xR → xS → Prop} {l1 : Option Value} {x : Nat} : G d 31 91 [some (.ref x), l1] st σ Q ↔ G d 31 92 [some (.ref x), l1] (.ref x :: st) σ Q := gs_go f_31_91 rfl
theorem f_31_92 : ft 31 92 = some (175, .getfield 27, [4, 5, 0, 152]) := rfl
theorem s_31_92 {d : Nat} {t : yT} {st : List Value} {Q : xR → xS → Prop} {l0 l1 : Option Value} {a : Nat} (ho : yisO 4 a) : G d 31 92 [l0, l1] (.ref a :: st) (yemb t) Q ↔ G d 31 93 [l0, l1] (.ref (a + 6) :: st) (yemb t) Q := gs_getf (c := 4) (j := 5) (q := .c (a + 6)) f_31_92 ho rfl
theorem f_31_93 : ft 31 93 = some (178, .iconst 0, []) := rfl
theorem s_31_93 {d : Nat} {σ : xS} {st : List Value} {Q : xR → xS → Prop} {l0 l1 : Option Value} : G d 31 93 [l0, l1] st σ Q ↔ G d 31 94 [l0, l1] (.int (0) :: st) σ Q := gs_go f_31_93 rfl
theorem f_31_94 : ft 31 94 = some (179, .bipush 40, []) := rfl
theorem s_31_94 {d : Nat} {σ : xS} {st : List Value} {Q : xR → xS → Prop} {l0 l1 : Option Value} : G d 31 94 [l0, l1] st σ Q ↔ G d 31 95 [l0, l1] (.int (40) :: st) σ Q := gs_go f_31_94 rfl
theorem f_31_95 : ft 31 95 = some (181, .invokestatic 78, [0, 5, 21, 376]) := rfl
theorem f_31_96 : ft 31 96 = some (184, .aload_n 1, []) := rfl
theorem s_31_96 {d : Nat} {σ : xS} {st : List Value} {Q : xR → xS → Prop} {l0 : Option Value} {x : Nat} : G d 31 96 [l0, some (.ref x)] st σ Q ↔ G d 31 97 [l0, some (.ref x)] (.ref x :: st) σ Q := gs_go f_31_96 rfl
theorem f_31_97 : ft 31 97 = some (185, .getfield 30, [4, 6, 0, 154]) := rfl
theorem s_31_97 {d : Nat} {t : yT} {st : List Value} {Q : xR → xS → Prop} {l0 l1 : Option Value} {a : Nat} (ho : yisO 4 a) : G d 31 97 [l0, l1] (.ref a :: st) (yemb t) Q ↔ G d 31 98 [l0, l1] (.ref (a + 7) :: st) (yemb t) Q := gs_getf (c := 4) (j := 6) (q := .c (a + 7)) f_31_97 ho rfl
theorem f_31_98 : ft 31 98 = some (188, .iconst 0, []) := rfl
theorem s_31_98 {d : Nat} {σ : xS} {st : List Value} {Q : xR → xS → Prop} {l0 l1 : Option Value} : G d 31 98 [l0, l1] st σ Q ↔ G d 31 99 [l0, l1] (.int (0) :: st) σ Q := gs_go f_31_98 rfl
theorem f_31_99 : ft 31 99 = some (189, .aload_n 0, []) := rfl
theorem s_31_99 {d : Nat} {σ : xS} {st : List Value} {Q : xR → xS → Prop} {l1 : Option Value} {x : Nat} : G d 31 99 [some (.ref x), l1] st σ Q ↔ G d 31 100 [some (.ref x), l1] (.ref x :: st) σ Q := gs_go f_31_99 rfl
theorem f_31_100 : ft 31 100 = some (190, .getfield 30, [4, 6, 0, 154]) := rfl
theorem s_31_100 {d : Nat} {t : yT} {st : List Value} {Q : xR → xS → Prop} {l0 l1 : Option Value} {a : Nat} (ho : yisO 4 a) : G d 31 100 [l0, l1] (.ref a :: st) (yemb t) Q ↔ G d 31 101 [l0, l1] (.ref (a + 7) :: st) (yemb t) Q := gs_getf (c := 4) (j := 6) (q := .c (a + 7)) f_31_100 ho rfl
theorem f_31_101 : ft 31 101 = some (193, .iconst 0, []) := rfl
theorem s_31_101 {d : Nat} {σ : xS} {st : List Value} {Q : xR → xS → Prop} {l0 l1 : Option Value} : G d 31 101 [l0, l1] st σ Q ↔ G d 31 102 [l0, l1] (.int (0) :: st) σ Q := gs_go f_31_101 rfl
theorem f_31_102 : ft 31 102 = some (194, .bipush 40, []) := rfl
theorem s_31_102 {d : Nat} {σ : xS} {st : List Value} {Q : xR → xS → Prop} {l0 l1 : Option Value} : G d 31 102 [l0, l1] st σ Q ↔ G d 31 103 [l0, l1] (.int (40) :: st) σ Q := gs_go f_31_102 rfl
theorem f_31_103 : ft 31 103 = some (196, .invokestatic 78, [0, 5, 21, 376]) := rfl
theorem f_31_104 : ft 31 104 = some (199, .return_, []) := rfl
theorem s_31_104 {d : Nat} {σ : xS} {ls : xL} {Q : xR → xS → Prop} : G d 31 104 ls [] σ Q ↔ Q (.inl none) σ := gs_ret f_31_104 rfl
theorem f_32_0 : ft 32 0 = some (0, .iload_n 1, []) := rfl
theorem s_32_0 {d : Nat} {σ : xS} {st : List Value} {Q : xR → xS → Prop} {l0 : Option Value} {x : Int32} : G d 32 0 [l0, some (.int x)] st σ Q ↔ G d 32 1 [l0, some (.int x)] (.int x :: st) σ Q := gs_go f_32_0 rfl
theorem f_32_1 : ft 32 1 = some (1, .ifCond .lt 15, [8]) := rfl
theorem s_32_1 {d : Nat} {σ : xS} {st : List Value} {Q : xR → xS → Prop} {l0 l1 : Option Value} {x : Int32} : G d 32 1 [l0, l1] (.int x :: st) σ Q ↔ if x < 0 then G d 32 8 [l0, l1] st σ Q else G d 32 2 [l0, l1] st σ Q := gs_if f_32_1 rfl
theorem f_32_2 : ft 32 2 = some (4, .iload_n 1, []) := rfl
theorem s_32_2 {d : Nat} {σ : xS} {st : List Value} {Q : xR → xS → Prop} {l0 : Option Value} {x : Int32} : G d 32 2 [l0, some (.int x)] st σ Q ↔ G d 32 3 [l0, some (.int x)] (.int x :: st) σ Q := gs_go f_32_2 rfl
theorem f_32_3 : ft 32 3 = some (5, .aload_n 0, []) := rfl
theorem s_32_3 {d : Nat} {σ : xS} {st : List Value} {Q : xR → xS → Prop} {l1 : Option Value} {x : Nat} : G d 32 3 [some (.ref x), l1] st σ Q ↔ G d 32 4 [some (.ref x), l1] (.ref x :: st) σ Q := gs_go f_32_3 rfl
theorem f_32_4 : ft 32 4 = some (6, .getfield 46, [4, 9, 0, 160]) := rfl
theorem s_32_4 {d : Nat} {t : yT} {st : List Value} {Q : xR → xS → Prop} {l0 l1 : Option Value} {a : Nat} (ho : yisO 4 a) : G d 32 4 [l0, l1] (.ref a :: st) (yemb t) Q ↔ G d 32 5 [l0, l1] (.int (t.A a 9) :: st) (yemb t) Q := gs_getf (c := 4) (j := 9) (q := .i) f_32_4 ho rfl
theorem f_32_5 : ft 32 5 = some (9, .if_icmp .ge 7, [8]) := rfl
theorem s_32_5 {d : Nat} {σ : xS} {st : List Value} {Q : xR → xS → Prop} {l0 l1 : Option Value} {x y : Int32} : G d 32 5 [l0, l1] (.int y :: .int x :: st) σ Q ↔ if y ≤ x then G d 32 8 [l0, l1] st σ Q else G d 32 6 [l0, l1] st σ Q := gs_if f_32_5 rfl
theorem f_32_6 : ft 32 6 = some (12, .iconst 1, []) := rfl
theorem s_32_6 {d : Nat} {σ : xS} {st : List Value} {Q : xR → xS → Prop} {l0 l1 : Option Value} : G d 32 6 [l0, l1] st σ Q ↔ G d 32 7 [l0, l1] (.int (1) :: st) σ Q := gs_go f_32_6 rfl
theorem f_32_7 : ft 32 7 = some (13, .goto 4, [9]) := rfl
theorem s_32_7 {d : Nat} {σ : xS} {st : List Value} {Q : xR → xS → Prop} {l0 l1 : Option Value} : G d 32 7 [l0, l1] st σ Q ↔ G d 32 9 [l0, l1] st σ Q := gs_go f_32_7 rfl
theorem f_32_8 : ft 32 8 = some (16, .iconst 0, []) := rfl
theorem s_32_8 {d : Nat} {σ : xS} {st : List Value} {Q : xR → xS → Prop} {l0 l1 : Option Value} : G d 32 8 [l0, l1] st σ Q ↔ G d 32 9 [l0, l1] (.int (0) :: st) σ Q := gs_go f_32_8 rfl
theorem f_32_9 : ft 32 9 = some (17, .ireturn, []) := rfl
theorem s_32_9 {d : Nat} {σ : xS} {ls : xL} {Q : xR → xS → Prop} {x : Int32} : G d 32 9 ls [.int x] σ Q ↔ ybo x ∧ Q (.inl (some (.int x))) σ := gs_retb f_32_9 rfl
theorem f_33_0 : ft 33 0 = some (0, .iload_n 1, []) := rfl
theorem s_33_0 {d : Nat} {σ : xS} {st : List Value} {Q : xR → xS → Prop} {l0 : Option Value} {x : Int32} : G d 33 0 [l0, some (.int x)] st σ Q ↔ G d 33 1 [l0, some (.int x)] (.int x :: st) σ Q := gs_go f_33_0 rfl
theorem f_33_1 : ft 33 1 = some (1, .ifCond .lt 15, [8]) := rfl
theorem s_33_1 {d : Nat} {σ : xS} {st : List Value} {Q : xR → xS → Prop} {l0 l1 : Option Value} {x : Int32} : G d 33 1 [l0, l1] (.int x :: st) σ Q ↔ if x < 0 then G d 33 8 [l0, l1] st σ Q else G d 33 2 [l0, l1] st σ Q := gs_if f_33_1 rfl
theorem f_33_2 : ft 33 2 = some (4, .iload_n 1, []) := rfl
theorem s_33_2 {d : Nat} {σ : xS} {st : List Value} {Q : xR → xS → Prop} {l0 : Option Value} {x : Int32} : G d 33 2 [l0, some (.int x)] st σ Q ↔ G d 33 3 [l0, some (.int x)] (.int x :: st) σ Q := gs_go f_33_2 rfl
theorem f_33_3 : ft 33 3 = some (5, .aload_n 0, []) := rfl
theorem s_33_3 {d : Nat} {σ : xS} {st : List Value} {Q : xR → xS → Prop} {l1 : Option Value} {x : Nat} : G d 33 3 [some (.ref x), l1] st σ Q ↔ G d 33 4 [some (.ref x), l1] (.ref x :: st) σ Q := gs_go f_33_3 rfl
theorem f_33_4 : ft 33 4 = some (6, .getfield 69, [4, 12, 0, 169]) := rfl
theorem s_33_4 {d : Nat} {t : yT} {st : List Value} {Q : xR → xS → Prop} {l0 l1 : Option Value} {a : Nat} (ho : yisO 4 a) : G d 33 4 [l0, l1] (.ref a :: st) (yemb t) Q ↔ G d 33 5 [l0, l1] (.int (t.A a 12) :: st) (yemb t) Q := gs_getf (c := 4) (j := 12) (q := .i) f_33_4 ho rfl
theorem f_33_5 : ft 33 5 = some (9, .if_icmp .ge 7, [8]) := rfl
theorem s_33_5 {d : Nat} {σ : xS} {st : List Value} {Q : xR → xS → Prop} {l0 l1 : Option Value} {x y : Int32} : G d 33 5 [l0, l1] (.int y :: .int x :: st) σ Q ↔ if y ≤ x then G d 33 8 [l0, l1] st σ Q else G d 33 6 [l0, l1] st σ Q := gs_if f_33_5 rfl
theorem f_33_6 : ft 33 6 = some (12, .iconst 1, []) := rfl
theorem s_33_6 {d : Nat} {σ : xS} {st : List Value} {Q : xR → xS → Prop} {l0 l1 : Option Value} : G d 33 6 [l0, l1] st σ Q ↔ G d 33 7 [l0, l1] (.int (1) :: st) σ Q := gs_go f_33_6 rfl
theorem f_33_7 : ft 33 7 = some (13, .goto 4, [9]) := rfl
theorem s_33_7 {d : Nat} {σ : xS} {st : List Value} {Q : xR → xS → Prop} {l0 l1 : Option Value} : G d 33 7 [l0, l1] st σ Q ↔ G d 33 9 [l0, l1] st σ Q := gs_go f_33_7 rfl
theorem f_33_8 : ft 33 8 = some (16, .iconst 0, []) := rfl
theorem s_33_8 {d : Nat} {σ : xS} {st : List Value} {Q : xR → xS → Prop} {l0 l1 : Option Value} : G d 33 8 [l0, l1] st σ Q ↔ G d 33 9 [l0, l1] (.int (0) :: st) σ Q := gs_go f_33_8 rfl
theorem f_33_9 : ft 33 9 = some (17, .ireturn, []) := rfl
theorem s_33_9 {d : Nat} {σ : xS} {ls : xL} {Q : xR → xS → Prop} {x : Int32} : G d 33 9 ls [.int x] σ Q ↔ ybo x ∧ Q (.inl (some (.int x))) σ := gs_retb f_33_9 rfl
theorem f_34_0 : ft 34 0 = some (0, .aload_n 0, []) := rfl
theorem s_34_0 {d : Nat} {σ : xS} {st : List Value} {Q : xR → xS → Prop} {l1 : Option Value} {x : Nat} : G d 34 0 [some (.ref x), l1] st σ Q ↔ G d 34 1 [some (.ref x), l1] (.ref x :: st) σ Q := gs_go f_34_0 rfl
theorem f_34_1 : ft 34 1 = some (1, .getfield 62, [4, 15, 0, 176]) := rfl
theorem s_34_1 {d : Nat} {t : yT} {st : List Value} {Q : xR → xS → Prop} {l0 l1 : Option Value} {a : Nat} (ho : yisO 4 a) : G d 34 1 [l0, l1] (.ref a :: st) (yemb t) Q ↔ G d 34 2 [l0, l1] (.long (t.L a 15) :: st) (yemb t) Q := gs_getf (c := 4) (j := 15) (q := .l) f_34_1 ho rfl
theorem f_34_2 : ft 34 2 = some (4, .iload_n 1, []) := rfl
theorem s_34_2 {d : Nat} {σ : xS} {st : List Value} {Q : xR → xS → Prop} {l0 : Option Value} {x : Int32} : G d 34 2 [l0, some (.int x)] st σ Q ↔ G d 34 3 [l0, some (.int x)] (.int x :: st) σ Q := gs_go f_34_2 rfl
theorem f_34_3 : ft 34 3 = some (5, .invokestatic 84, [64, 2, 1, 1020]) := rfl
theorem s_34_3 {d : Nat} {σ : xS} {st : List Value} {Q : xR → xS → Prop} {l0 l1 : Option Value} {a0 : Int64} {a1 : Int32} : G (d + 1) 34 3 [l0, l1] (.int a1 :: .long a0 :: st) σ Q ↔ xcat st ≤ 8 ∧ Cl d 64 [.long a0, .int a1] σ (Gk (d + 1) 34 3 [l0, l1] st Q) := gs_call f_34_3 ((xinv_call (i := 3) (n := 1020) (ls := [l0, l1]) (kind := 1) (σ := σ) (by decide)).trans (xcall_st [.int a1, .long a0] rfl (by decide) (show (3 : Nat) ≤ 3 by decide)))
theorem f_34_4 : ft 34 4 = some (8, .ireturn, []) := rfl
theorem s_34_4 {d : Nat} {σ : xS} {ls : xL} {Q : xR → xS → Prop} {x : Int32} : G d 34 4 ls [.int x] σ Q ↔ ybo x ∧ Q (.inl (some (.int x))) σ := gs_retb f_34_4 rfl
theorem f_35_0 : ft 35 0 = some (0, .aload_n 0, []) := rfl
theorem s_35_0 {d : Nat} {σ : xS} {st : List Value} {Q : xR → xS → Prop} {l1 l2 : Option Value} {x : Nat} : G d 35 0 [some (.ref x), l1, l2] st σ Q ↔ G d 35 1 [some (.ref x), l1, l2] (.ref x :: st) σ Q := gs_go f_35_0 rfl
theorem f_35_1 : ft 35 1 = some (1, .iload_n 2, []) := rfl
theorem s_35_1 {d : Nat} {σ : xS} {st : List Value} {Q : xR → xS → Prop} {l0 l1 : Option Value} {x : Int32} : G d 35 1 [l0, l1, some (.int x)] st σ Q ↔ G d 35 2 [l0, l1, some (.int x)] (.int x :: st) σ Q := gs_go f_35_1 rfl
theorem f_35_2 : ft 35 2 = some (2, .ifCond .eq 14, [10]) := rfl
theorem s_35_2 {d : Nat} {σ : xS} {st : List Value} {Q : xR → xS → Prop} {l0 l1 l2 : Option Value} {x : Int32} : G d 35 2 [l0, l1, l2] (.int x :: st) σ Q ↔ if x = 0 then G d 35 10 [l0, l1, l2] st σ Q else G d 35 3 [l0, l1, l2] st σ Q := gs_if f_35_2 rfl
theorem f_35_3 : ft 35 3 = some (5, .aload_n 0, []) := rfl
theorem s_35_3 {d : Nat} {σ : xS} {st : List Value} {Q : xR → xS → Prop} {l1 l2 : Option Value} {x : Nat} : G d 35 3 [some (.ref x), l1, l2] st σ Q ↔ G d 35 4 [some (.ref x), l1, l2] (.ref x :: st) σ Q := gs_go f_35_3 rfl
theorem f_35_4 : ft 35 4 = some (6, .getfield 62, [4, 15, 0, 176]) := rfl
theorem s_35_4 {d : Nat} {t : yT} {st : List Value} {Q : xR → xS → Prop} {l0 l1 l2 : Option Value} {a : Nat} (ho : yisO 4 a) : G d 35 4 [l0, l1, l2] (.ref a :: st) (yemb t) Q ↔ G d 35 5 [l0, l1, l2] (.long (t.L a 15) :: st) (yemb t) Q := gs_getf (c := 4) (j := 15) (q := .l) f_35_4 ho rfl
theorem f_35_5 : ft 35 5 = some (9, .lconst 1, []) := rfl
theorem s_35_5 {d : Nat} {σ : xS} {st : List Value} {Q : xR → xS → Prop} {l0 l1 l2 : Option Value} : G d 35 5 [l0, l1, l2] st σ Q ↔ G d 35 6 [l0, l1, l2] (.long (1) :: st) σ Q := gs_go f_35_5 rfl
theorem f_35_6 : ft 35 6 = some (10, .iload_n 1, []) := rfl
theorem s_35_6 {d : Nat} {σ : xS} {st : List Value} {Q : xR → xS → Prop} {l0 l2 : Option Value} {x : Int32} : G d 35 6 [l0, some (.int x), l2] st σ Q ↔ G d 35 7 [l0, some (.int x), l2] (.int x :: st) σ Q := gs_go f_35_6 rfl
theorem f_35_7 : ft 35 7 = some (11, .lshl, []) := rfl
theorem s_35_7 {d : Nat} {σ : xS} {st : List Value} {Q : xR → xS → Prop} {l0 l1 l2 : Option Value} {x : Int64} {y : Int32} : G d 35 7 [l0, l1, l2] (.int y :: .long x :: st) σ Q ↔ G d 35 8 [l0, l1, l2] (.long (x <<< (y.toInt64 &&& 63)) :: st) σ Q := gs_go f_35_7 rfl
theorem f_35_8 : ft 35 8 = some (12, .lor, []) := rfl
theorem s_35_8 {d : Nat} {σ : xS} {st : List Value} {Q : xR → xS → Prop} {l0 l1 l2 : Option Value} {x y : Int64} : G d 35 8 [l0, l1, l2] (.long y :: .long x :: st) σ Q ↔ G d 35 9 [l0, l1, l2] (.long (x ||| y) :: st) σ Q := gs_go f_35_8 rfl
theorem f_35_9 : ft 35 9 = some (13, .goto 15, [18]) := rfl
theorem s_35_9 {d : Nat} {σ : xS} {st : List Value} {Q : xR → xS → Prop} {l0 l1 l2 : Option Value} : G d 35 9 [l0, l1, l2] st σ Q ↔ G d 35 18 [l0, l1, l2] st σ Q := gs_go f_35_9 rfl
theorem f_35_10 : ft 35 10 = some (16, .aload_n 0, []) := rfl
theorem s_35_10 {d : Nat} {σ : xS} {st : List Value} {Q : xR → xS → Prop} {l1 l2 : Option Value} {x : Nat} : G d 35 10 [some (.ref x), l1, l2] st σ Q ↔ G d 35 11 [some (.ref x), l1, l2] (.ref x :: st) σ Q := gs_go f_35_10 rfl
theorem f_35_11 : ft 35 11 = some (17, .getfield 62, [4, 15, 0, 176]) := rfl
theorem s_35_11 {d : Nat} {t : yT} {st : List Value} {Q : xR → xS → Prop} {l0 l1 l2 : Option Value} {a : Nat} (ho : yisO 4 a) : G d 35 11 [l0, l1, l2] (.ref a :: st) (yemb t) Q ↔ G d 35 12 [l0, l1, l2] (.long (t.L a 15) :: st) (yemb t) Q := gs_getf (c := 4) (j := 15) (q := .l) f_35_11 ho rfl
theorem f_35_12 : ft 35 12 = some (20, .lconst 1, []) := rfl
theorem s_35_12 {d : Nat} {σ : xS} {st : List Value} {Q : xR → xS → Prop} {l0 l1 l2 : Option Value} : G d 35 12 [l0, l1, l2] st σ Q ↔ G d 35 13 [l0, l1, l2] (.long (1) :: st) σ Q := gs_go f_35_12 rfl
theorem f_35_13 : ft 35 13 = some (21, .iload_n 1, []) := rfl
theorem s_35_13 {d : Nat} {σ : xS} {st : List Value} {Q : xR → xS → Prop} {l0 l2 : Option Value} {x : Int32} : G d 35 13 [l0, some (.int x), l2] st σ Q ↔ G d 35 14 [l0, some (.int x), l2] (.int x :: st) σ Q := gs_go f_35_13 rfl
theorem f_35_14 : ft 35 14 = some (22, .lshl, []) := rfl
theorem s_35_14 {d : Nat} {σ : xS} {st : List Value} {Q : xR → xS → Prop} {l0 l1 l2 : Option Value} {x : Int64} {y : Int32} : G d 35 14 [l0, l1, l2] (.int y :: .long x :: st) σ Q ↔ G d 35 15 [l0, l1, l2] (.long (x <<< (y.toInt64 &&& 63)) :: st) σ Q := gs_go f_35_14 rfl
theorem f_35_15 : ft 35 15 = some (23, .ldc2_w 88, [(-1), 1053]) := rfl
theorem s_35_15 {d : Nat} {σ : xS} {st : List Value} {Q : xR → xS → Prop} {l0 l1 l2 : Option Value} : G d 35 15 [l0, l1, l2] st σ Q ↔ G d 35 16 [l0, l1, l2] (.long (-1) :: st) σ Q := gs_go f_35_15 rfl
theorem f_35_16 : ft 35 16 = some (26, .lxor, []) := rfl
theorem s_35_16 {d : Nat} {σ : xS} {st : List Value} {Q : xR → xS → Prop} {l0 l1 l2 : Option Value} {x y : Int64} : G d 35 16 [l0, l1, l2] (.long y :: .long x :: st) σ Q ↔ G d 35 17 [l0, l1, l2] (.long (x ^^^ y) :: st) σ Q := gs_go f_35_16 rfl
theorem f_35_17 : ft 35 17 = some (27, .land, []) := rfl
theorem s_35_17 {d : Nat} {σ : xS} {st : List Value} {Q : xR → xS → Prop} {l0 l1 l2 : Option Value} {x y : Int64} : G d 35 17 [l0, l1, l2] (.long y :: .long x :: st) σ Q ↔ G d 35 18 [l0, l1, l2] (.long (x &&& y) :: st) σ Q := gs_go f_35_17 rfl
theorem f_35_18 : ft 35 18 = some (28, .putfield 62, [4, 15, 0, 176]) := rfl
theorem s_35_18 {d : Nat} {t : yT} {st : List Value} {Q : xR → xS → Prop} {l0 l1 l2 : Option Value} {a : Nat} {x : Int64} (ho : yisO 4 a) : G d 35 18 [l0, l1, l2] (.long x :: .ref a :: st) (yemb t) Q ↔ G d 35 19 [l0, l1, l2] st (yemb (t.sL a 15 x)) Q := gs_putL (c := 4) (j := 15) f_35_18 (fun _ => rfl) rfl rfl ho
theorem f_35_19 : ft 35 19 = some (31, .return_, []) := rfl
theorem s_35_19 {d : Nat} {σ : xS} {ls : xL} {Q : xR → xS → Prop} : G d 35 19 ls [] σ Q ↔ Q (.inl none) σ := gs_ret f_35_19 rfl
theorem f_36_0 : ft 36 0 = some (0, .aload_n 0, []) := rfl
theorem s_36_0 {d : Nat} {σ : xS} {st : List Value} {Q : xR → xS → Prop} {l1 l2 l3 : Option Value} {x : Nat} : G d 36 0 [some (.ref x), l1, l2, l3] st σ Q ↔ G d 36 1 [some (.ref x), l1, l2, l3] (.ref x :: st) σ Q := gs_go f_36_0 rfl
theorem f_36_1 : ft 36 1 = some (1, .getfield 18, [4, 2, 0, 146]) := rfl
theorem s_36_1 {d : Nat} {t : yT} {st : List Value} {Q : xR → xS → Prop} {l0 l1 l2 l3 : Option Value} {a : Nat} (ho : yisO 4 a) : G d 36 1 [l0, l1, l2, l3] (.ref a :: st) (yemb t) Q ↔ G d 36 2 [l0, l1, l2, l3] (.ref (a + 3) :: st) (yemb t) Q := gs_getf (c := 4) (j := 2) (q := .c (a + 3)) f_36_1 ho rfl
theorem f_36_2 : ft 36 2 = some (4, .iload_n 1, []) := rfl
theorem s_36_2 {d : Nat} {σ : xS} {st : List Value} {Q : xR → xS → Prop} {l0 l2 l3 : Option Value} {x : Int32} : G d 36 2 [l0, some (.int x), l2, l3] st σ Q ↔ G d 36 3 [l0, some (.int x), l2, l3] (.int x :: st) σ Q := gs_go f_36_2 rfl
theorem f_36_3 : ft 36 3 = some (5, .iload_n 2, []) := rfl
theorem s_36_3 {d : Nat} {σ : xS} {st : List Value} {Q : xR → xS → Prop} {l0 l1 l3 : Option Value} {x : Int32} : G d 36 3 [l0, l1, some (.int x), l3] st σ Q ↔ G d 36 4 [l0, l1, some (.int x), l3] (.int x :: st) σ Q := gs_go f_36_3 rfl
theorem f_36_4 : ft 36 4 = some (6, .iastore, []) := rfl
theorem s_36_4 {d : Nat} {t : yT} {st : List Value} {Q : xR → xS → Prop} {l0 l1 l2 l3 : Option Value} {a : Nat} {x v : Int32} (ha : yA 0 a) : G d 36 4 [l0, l1, l2, l3] (.int v :: .int x :: .ref a :: st) (yemb t) Q ↔ yix x (yn a) ∧ G d 36 5 [l0, l1, l2, l3] st (yemb (t.s1 a x.toNatClampNeg v)) Q := gs_iast f_36_4 ha
theorem f_36_5 : ft 36 5 = some (7, .aload_n 0, []) := rfl
theorem s_36_5 {d : Nat} {σ : xS} {st : List Value} {Q : xR → xS → Prop} {l1 l2 l3 : Option Value} {x : Nat} : G d 36 5 [some (.ref x), l1, l2, l3] st σ Q ↔ G d 36 6 [some (.ref x), l1, l2, l3] (.ref x :: st) σ Q := gs_go f_36_5 rfl
theorem f_36_6 : ft 36 6 = some (8, .getfield 21, [4, 3, 0, 148]) := rfl
theorem s_36_6 {d : Nat} {t : yT} {st : List Value} {Q : xR → xS → Prop} {l0 l1 l2 l3 : Option Value} {a : Nat} (ho : yisO 4 a) : G d 36 6 [l0, l1, l2, l3] (.ref a :: st) (yemb t) Q ↔ G d 36 7 [l0, l1, l2, l3] (.ref (a + 4) :: st) (yemb t) Q := gs_getf (c := 4) (j := 3) (q := .c (a + 4)) f_36_6 ho rfl
theorem f_36_7 : ft 36 7 = some (11, .iload_n 1, []) := rfl
theorem s_36_7 {d : Nat} {σ : xS} {st : List Value} {Q : xR → xS → Prop} {l0 l2 l3 : Option Value} {x : Int32} : G d 36 7 [l0, some (.int x), l2, l3] st σ Q ↔ G d 36 8 [l0, some (.int x), l2, l3] (.int x :: st) σ Q := gs_go f_36_7 rfl
theorem f_36_8 : ft 36 8 = some (12, .iload_n 3, []) := rfl
theorem s_36_8 {d : Nat} {σ : xS} {st : List Value} {Q : xR → xS → Prop} {l0 l1 l2 : Option Value} {x : Int32} : G d 36 8 [l0, l1, l2, some (.int x)] st σ Q ↔ G d 36 9 [l0, l1, l2, some (.int x)] (.int x :: st) σ Q := gs_go f_36_8 rfl
theorem f_36_9 : ft 36 9 = some (13, .iastore, []) := rfl
theorem s_36_9 {d : Nat} {t : yT} {st : List Value} {Q : xR → xS → Prop} {l0 l1 l2 l3 : Option Value} {a : Nat} {x v : Int32} (ha : yA 0 a) : G d 36 9 [l0, l1, l2, l3] (.int v :: .int x :: .ref a :: st) (yemb t) Q ↔ yix x (yn a) ∧ G d 36 10 [l0, l1, l2, l3] st (yemb (t.s1 a x.toNatClampNeg v)) Q := gs_iast f_36_9 ha
theorem f_36_10 : ft 36 10 = some (14, .return_, []) := rfl
theorem s_36_10 {d : Nat} {σ : xS} {ls : xL} {Q : xR → xS → Prop} : G d 36 10 ls [] σ Q ↔ Q (.inl none) σ := gs_ret f_36_10 rfl
theorem f_37_0 : ft 37 0 = some (0, .lconst 0, []) := rfl
theorem s_37_0 {d : Nat} {σ : xS} {st : List Value} {Q : xR → xS → Prop} {l0 l1 l2 l3 : Option Value} : G d 37 0 [l0, l1, l2, l3] st σ Q ↔ G d 37 1 [l0, l1, l2, l3] (.long (0) :: st) σ Q := gs_go f_37_0 rfl
theorem f_37_1 : ft 37 1 = some (1, .lstore_n 1, []) := rfl
theorem s_37_1 {d : Nat} {σ : xS} {st : List Value} {Q : xR → xS → Prop} {l0 l1 l2 l3 : Option Value} {x : Int64} : G d 37 1 [l0, l1, l2, l3] (.long x :: st) σ Q ↔ G d 37 2 [ykl l0, some (.long x), none, l3] st σ Q := by
  cases l0 with
  | none => exact gs_go f_37_1 rfl
  | some v => cases v <;> exact gs_go f_37_1 rfl
theorem f_37_2 : ft 37 2 = some (2, .iconst 0, []) := rfl
theorem s_37_2 {d : Nat} {σ : xS} {st : List Value} {Q : xR → xS → Prop} {l0 l1 l2 l3 : Option Value} : G d 37 2 [l0, l1, l2, l3] st σ Q ↔ G d 37 3 [l0, l1, l2, l3] (.int (0) :: st) σ Q := gs_go f_37_2 rfl
theorem f_37_3 : ft 37 3 = some (3, .istore_n 3, []) := rfl
theorem s_37_3 {d : Nat} {σ : xS} {st : List Value} {Q : xR → xS → Prop} {l0 l1 l2 l3 : Option Value} {x : Int32} : G d 37 3 [l0, l1, l2, l3] (.int x :: st) σ Q ↔ G d 37 4 [l0, l1, ykl l2, some (.int x)] st σ Q := by
  cases l2 with
  | none => exact gs_go f_37_3 rfl
  | some v => cases v <;> exact gs_go f_37_3 rfl
theorem f_37_4 : ft 37 4 = some (4, .iload_n 3, []) := rfl
theorem s_37_4 {d : Nat} {σ : xS} {st : List Value} {Q : xR → xS → Prop} {l0 l1 l2 : Option Value} {x : Int32} : G d 37 4 [l0, l1, l2, some (.int x)] st σ Q ↔ G d 37 5 [l0, l1, l2, some (.int x)] (.int x :: st) σ Q := gs_go f_37_4 rfl
theorem f_37_5 : ft 37 5 = some (5, .aload_n 0, []) := rfl
theorem s_37_5 {d : Nat} {σ : xS} {st : List Value} {Q : xR → xS → Prop} {l1 l2 l3 : Option Value} {x : Nat} : G d 37 5 [some (.ref x), l1, l2, l3] st σ Q ↔ G d 37 6 [some (.ref x), l1, l2, l3] (.ref x :: st) σ Q := gs_go f_37_5 rfl
theorem f_37_6 : ft 37 6 = some (6, .getfield 46, [4, 9, 0, 160]) := rfl
theorem s_37_6 {d : Nat} {t : yT} {st : List Value} {Q : xR → xS → Prop} {l0 l1 l2 l3 : Option Value} {a : Nat} (ho : yisO 4 a) : G d 37 6 [l0, l1, l2, l3] (.ref a :: st) (yemb t) Q ↔ G d 37 7 [l0, l1, l2, l3] (.int (t.A a 9) :: st) (yemb t) Q := gs_getf (c := 4) (j := 9) (q := .i) f_37_6 ho rfl
theorem f_37_7 : ft 37 7 = some (9, .if_icmp .ge 24, [21]) := rfl
theorem s_37_7 {d : Nat} {σ : xS} {st : List Value} {Q : xR → xS → Prop} {l0 l1 l2 l3 : Option Value} {x y : Int32} : G d 37 7 [l0, l1, l2, l3] (.int y :: .int x :: st) σ Q ↔ if y ≤ x then G d 37 21 [l0, l1, l2, l3] st σ Q else G d 37 8 [l0, l1, l2, l3] st σ Q := gs_if f_37_7 rfl
theorem f_37_8 : ft 37 8 = some (12, .aload_n 0, []) := rfl
theorem s_37_8 {d : Nat} {σ : xS} {st : List Value} {Q : xR → xS → Prop} {l1 l2 l3 : Option Value} {x : Nat} : G d 37 8 [some (.ref x), l1, l2, l3] st σ Q ↔ G d 37 9 [some (.ref x), l1, l2, l3] (.ref x :: st) σ Q := gs_go f_37_8 rfl
theorem f_37_9 : ft 37 9 = some (13, .getfield 18, [4, 2, 0, 146]) := rfl
theorem s_37_9 {d : Nat} {t : yT} {st : List Value} {Q : xR → xS → Prop} {l0 l1 l2 l3 : Option Value} {a : Nat} (ho : yisO 4 a) : G d 37 9 [l0, l1, l2, l3] (.ref a :: st) (yemb t) Q ↔ G d 37 10 [l0, l1, l2, l3] (.ref (a + 3) :: st) (yemb t) Q := gs_getf (c := 4) (j := 2) (q := .c (a + 3)) f_37_9 ho rfl
theorem f_37_10 : ft 37 10 = some (16, .iload_n 3, []) := rfl
theorem s_37_10 {d : Nat} {σ : xS} {st : List Value} {Q : xR → xS → Prop} {l0 l1 l2 : Option Value} {x : Int32} : G d 37 10 [l0, l1, l2, some (.int x)] st σ Q ↔ G d 37 11 [l0, l1, l2, some (.int x)] (.int x :: st) σ Q := gs_go f_37_10 rfl
theorem f_37_11 : ft 37 11 = some (17, .iaload, []) := rfl
theorem s_37_11 {d : Nat} {t : yT} {st : List Value} {Q : xR → xS → Prop} {l0 l1 l2 l3 : Option Value} {a : Nat} {x : Int32} (ha : yA 0 a) : G d 37 11 [l0, l1, l2, l3] (.int x :: .ref a :: st) (yemb t) Q ↔ yix x (yn a) ∧ G d 37 12 [l0, l1, l2, l3] (.int (t.A a x.toNatClampNeg) :: st) (yemb t) Q := gs_iald f_37_11 ha
theorem f_37_12 : ft 37 12 = some (18, .ifCond .eq 9, [19]) := rfl
theorem s_37_12 {d : Nat} {σ : xS} {st : List Value} {Q : xR → xS → Prop} {l0 l1 l2 l3 : Option Value} {x : Int32} : G d 37 12 [l0, l1, l2, l3] (.int x :: st) σ Q ↔ if x = 0 then G d 37 19 [l0, l1, l2, l3] st σ Q else G d 37 13 [l0, l1, l2, l3] st σ Q := gs_if f_37_12 rfl
theorem f_37_13 : ft 37 13 = some (21, .lload_n 1, []) := rfl
theorem s_37_13 {d : Nat} {σ : xS} {st : List Value} {Q : xR → xS → Prop} {l0 l2 l3 : Option Value} {x : Int64} : G d 37 13 [l0, some (.long x), l2, l3] st σ Q ↔ G d 37 14 [l0, some (.long x), l2, l3] (.long x :: st) σ Q := gs_go f_37_13 rfl
theorem f_37_14 : ft 37 14 = some (22, .lconst 1, []) := rfl
theorem s_37_14 {d : Nat} {σ : xS} {st : List Value} {Q : xR → xS → Prop} {l0 l1 l2 l3 : Option Value} : G d 37 14 [l0, l1, l2, l3] st σ Q ↔ G d 37 15 [l0, l1, l2, l3] (.long (1) :: st) σ Q := gs_go f_37_14 rfl
theorem f_37_15 : ft 37 15 = some (23, .iload_n 3, []) := rfl
theorem s_37_15 {d : Nat} {σ : xS} {st : List Value} {Q : xR → xS → Prop} {l0 l1 l2 : Option Value} {x : Int32} : G d 37 15 [l0, l1, l2, some (.int x)] st σ Q ↔ G d 37 16 [l0, l1, l2, some (.int x)] (.int x :: st) σ Q := gs_go f_37_15 rfl
theorem f_37_16 : ft 37 16 = some (24, .lshl, []) := rfl
theorem s_37_16 {d : Nat} {σ : xS} {st : List Value} {Q : xR → xS → Prop} {l0 l1 l2 l3 : Option Value} {x : Int64} {y : Int32} : G d 37 16 [l0, l1, l2, l3] (.int y :: .long x :: st) σ Q ↔ G d 37 17 [l0, l1, l2, l3] (.long (x <<< (y.toInt64 &&& 63)) :: st) σ Q := gs_go f_37_16 rfl
theorem f_37_17 : ft 37 17 = some (25, .lor, []) := rfl
theorem s_37_17 {d : Nat} {σ : xS} {st : List Value} {Q : xR → xS → Prop} {l0 l1 l2 l3 : Option Value} {x y : Int64} : G d 37 17 [l0, l1, l2, l3] (.long y :: .long x :: st) σ Q ↔ G d 37 18 [l0, l1, l2, l3] (.long (x ||| y) :: st) σ Q := gs_go f_37_17 rfl
theorem f_37_18 : ft 37 18 = some (26, .lstore_n 1, []) := rfl
theorem s_37_18 {d : Nat} {σ : xS} {st : List Value} {Q : xR → xS → Prop} {l0 l1 l2 l3 : Option Value} {x : Int64} : G d 37 18 [l0, l1, l2, l3] (.long x :: st) σ Q ↔ G d 37 19 [ykl l0, some (.long x), none, l3] st σ Q := by
  cases l0 with
  | none => exact gs_go f_37_18 rfl
  | some v => cases v <;> exact gs_go f_37_18 rfl
theorem f_37_19 : ft 37 19 = some (27, .iinc 3 1, []) := rfl
theorem s_37_19 {d : Nat} {σ : xS} {st : List Value} {Q : xR → xS → Prop} {l0 l1 l2 : Option Value} {x : Int32} : G d 37 19 [l0, l1, l2, some (.int x)] st σ Q ↔ G d 37 20 [l0, l1, ykl l2, some (.int (x + 1))] st σ Q := by
  cases l2 with
  | none => exact gs_go f_37_19 rfl
  | some v => cases v <;> exact gs_go f_37_19 rfl
theorem f_37_20 : ft 37 20 = some (30, .goto (-26), [4]) := rfl
theorem s_37_20 {d : Nat} {σ : xS} {st : List Value} {Q : xR → xS → Prop} {l0 l1 l2 l3 : Option Value} : G d 37 20 [l0, l1, l2, l3] st σ Q ↔ G d 37 4 [l0, l1, l2, l3] st σ Q := gs_go f_37_20 rfl
theorem f_37_21 : ft 37 21 = some (33, .lload_n 1, []) := rfl
theorem s_37_21 {d : Nat} {σ : xS} {st : List Value} {Q : xR → xS → Prop} {l0 l2 l3 : Option Value} {x : Int64} : G d 37 21 [l0, some (.long x), l2, l3] st σ Q ↔ G d 37 22 [l0, some (.long x), l2, l3] (.long x :: st) σ Q := gs_go f_37_21 rfl
theorem f_37_22 : ft 37 22 = some (34, .lreturn, []) := rfl
theorem s_37_22 {d : Nat} {σ : xS} {ls : xL} {Q : xR → xS → Prop} {x : Int64} : G d 37 22 ls [.long x] σ Q ↔ Q (.inl (some (.long x))) σ := gs_ret f_37_22 rfl
theorem f_38_0 : ft 38 0 = some (0, .aload_n 0, []) := rfl
theorem s_38_0 {d : Nat} {σ : xS} {st : List Value} {Q : xR → xS → Prop} {l1 l2 l3 l4 l5 : Option Value} {x : Nat} : G d 38 0 [some (.ref x), l1, l2, l3, l4, l5] st σ Q ↔ G d 38 1 [some (.ref x), l1, l2, l3, l4, l5] (.ref x :: st) σ Q := gs_go f_38_0 rfl
theorem f_38_1 : ft 38 1 = some (1, .iload_n 1, []) := rfl
theorem s_38_1 {d : Nat} {σ : xS} {st : List Value} {Q : xR → xS → Prop} {l0 l2 l3 l4 l5 : Option Value} {x : Int32} : G d 38 1 [l0, some (.int x), l2, l3, l4, l5] st σ Q ↔ G d 38 2 [l0, some (.int x), l2, l3, l4, l5] (.int x :: st) σ Q := gs_go f_38_1 rfl
theorem f_38_2 : ft 38 2 = some (2, .invokevirtual 90, [32, 2, 0, 961]) := rfl
theorem s_38_2 {d : Nat} {t : yT} {st : List Value} {Q : xR → xS → Prop} {l0 l1 l2 l3 l4 l5 : Option Value} {a0 : Nat} {a1 : Int32} (ho : yisO 4 a0) : G (d + 1) 38 2 [l0, l1, l2, l3, l4, l5] (.int a1 :: .ref a0 :: st) (yemb t) Q ↔ xcat st ≤ 8 ∧ Cl d 32 [.ref a0, .int a1] (yemb t) (Gk (d + 1) 38 2 [l0, l1, l2, l3, l4, l5] st Q) := gs_call f_38_2 ((xinv_call (i := 2) (n := 961) (ls := [l0, l1, l2, l3, l4, l5]) (kind := 0) (σ := yemb t) (by decide)).trans (xcall_vi [.int a1, .ref a0] rfl rfl (show (2 : Nat) ≤ 2 by decide) rfl ho))
theorem f_38_3 : ft 38 3 = some (5, .ifCond .eq 11, [8]) := rfl
theorem s_38_3 {d : Nat} {σ : xS} {st : List Value} {Q : xR → xS → Prop} {l0 l1 l2 l3 l4 l5 : Option Value} {x : Int32} : G d 38 3 [l0, l1, l2, l3, l4, l5] (.int x :: st) σ Q ↔ if x = 0 then G d 38 8 [l0, l1, l2, l3, l4, l5] st σ Q else G d 38 4 [l0, l1, l2, l3, l4, l5] st σ Q := gs_if f_38_3 rfl
theorem f_38_4 : ft 38 4 = some (8, .aload_n 0, []) := rfl
theorem s_38_4 {d : Nat} {σ : xS} {st : List Value} {Q : xR → xS → Prop} {l1 l2 l3 l4 l5 : Option Value} {x : Nat} : G d 38 4 [some (.ref x), l1, l2, l3, l4, l5] st σ Q ↔ G d 38 5 [some (.ref x), l1, l2, l3, l4, l5] (.ref x :: st) σ Q := gs_go f_38_4 rfl
theorem f_38_5 : ft 38 5 = some (9, .iload_n 2, []) := rfl
theorem s_38_5 {d : Nat} {σ : xS} {st : List Value} {Q : xR → xS → Prop} {l0 l1 l3 l4 l5 : Option Value} {x : Int32} : G d 38 5 [l0, l1, some (.int x), l3, l4, l5] st σ Q ↔ G d 38 6 [l0, l1, some (.int x), l3, l4, l5] (.int x :: st) σ Q := gs_go f_38_5 rfl
theorem f_38_6 : ft 38 6 = some (10, .invokevirtual 90, [32, 2, 0, 961]) := rfl
theorem s_38_6 {d : Nat} {t : yT} {st : List Value} {Q : xR → xS → Prop} {l0 l1 l2 l3 l4 l5 : Option Value} {a0 : Nat} {a1 : Int32} (ho : yisO 4 a0) : G (d + 1) 38 6 [l0, l1, l2, l3, l4, l5] (.int a1 :: .ref a0 :: st) (yemb t) Q ↔ xcat st ≤ 8 ∧ Cl d 32 [.ref a0, .int a1] (yemb t) (Gk (d + 1) 38 6 [l0, l1, l2, l3, l4, l5] st Q) := gs_call f_38_6 ((xinv_call (i := 6) (n := 961) (ls := [l0, l1, l2, l3, l4, l5]) (kind := 0) (σ := yemb t) (by decide)).trans (xcall_vi [.int a1, .ref a0] rfl rfl (show (2 : Nat) ≤ 2 by decide) rfl ho))
theorem f_38_7 : ft 38 7 = some (13, .ifCond .ne 5, [10]) := rfl
theorem s_38_7 {d : Nat} {σ : xS} {st : List Value} {Q : xR → xS → Prop} {l0 l1 l2 l3 l4 l5 : Option Value} {x : Int32} : G d 38 7 [l0, l1, l2, l3, l4, l5] (.int x :: st) σ Q ↔ if x ≠ 0 then G d 38 10 [l0, l1, l2, l3, l4, l5] st σ Q else G d 38 8 [l0, l1, l2, l3, l4, l5] st σ Q := gs_if f_38_7 rfl
theorem f_38_8 : ft 38 8 = some (16, .iconst 3, []) := rfl
theorem s_38_8 {d : Nat} {σ : xS} {st : List Value} {Q : xR → xS → Prop} {l0 l1 l2 l3 l4 l5 : Option Value} : G d 38 8 [l0, l1, l2, l3, l4, l5] st σ Q ↔ G d 38 9 [l0, l1, l2, l3, l4, l5] (.int (3) :: st) σ Q := gs_go f_38_8 rfl
theorem f_38_9 : ft 38 9 = some (17, .ireturn, []) := rfl
theorem s_38_9 {d : Nat} {σ : xS} {ls : xL} {Q : xR → xS → Prop} {x : Int32} : G d 38 9 ls [.int x] σ Q ↔ Q (.inl (some (.int x))) σ := gs_reti f_38_9 rfl
theorem f_38_10 : ft 38 10 = some (18, .iload_n 1, []) := rfl
theorem s_38_10 {d : Nat} {σ : xS} {st : List Value} {Q : xR → xS → Prop} {l0 l2 l3 l4 l5 : Option Value} {x : Int32} : G d 38 10 [l0, some (.int x), l2, l3, l4, l5] st σ Q ↔ G d 38 11 [l0, some (.int x), l2, l3, l4, l5] (.int x :: st) σ Q := gs_go f_38_10 rfl
theorem f_38_11 : ft 38 11 = some (19, .iload_n 2, []) := rfl
theorem s_38_11 {d : Nat} {σ : xS} {st : List Value} {Q : xR → xS → Prop} {l0 l1 l3 l4 l5 : Option Value} {x : Int32} : G d 38 11 [l0, l1, some (.int x), l3, l4, l5] st σ Q ↔ G d 38 12 [l0, l1, some (.int x), l3, l4, l5] (.int x :: st) σ Q := gs_go f_38_11 rfl
theorem f_38_12 : ft 38 12 = some (20, .if_icmp .gt 26, [22]) := rfl
theorem s_38_12 {d : Nat} {σ : xS} {st : List Value} {Q : xR → xS → Prop} {l0 l1 l2 l3 l4 l5 : Option Value} {x y : Int32} : G d 38 12 [l0, l1, l2, l3, l4, l5] (.int y :: .int x :: st) σ Q ↔ if y < x then G d 38 22 [l0, l1, l2, l3, l4, l5] st σ Q else G d 38 13 [l0, l1, l2, l3, l4, l5] st σ Q := gs_if f_38_12 rfl
theorem f_38_13 : ft 38 13 = some (23, .iload_n 3, []) := rfl
theorem s_38_13 {d : Nat} {σ : xS} {st : List Value} {Q : xR → xS → Prop} {l0 l1 l2 l4 l5 : Option Value} {x : Int32} : G d 38 13 [l0, l1, l2, some (.int x), l4, l5] st σ Q ↔ G d 38 14 [l0, l1, l2, some (.int x), l4, l5] (.int x :: st) σ Q := gs_go f_38_13 rfl
theorem f_38_14 : ft 38 14 = some (24, .invokestatic 94, [119, 1, 4, 965]) := rfl
theorem s_38_14 {d : Nat} {σ : xS} {st : List Value} {Q : xR → xS → Prop} {l0 l1 l2 l3 l4 l5 : Option Value} {a0 : Int32} : G (d + 1) 38 14 [l0, l1, l2, l3, l4, l5] (.int a0 :: st) σ Q ↔ xcat st ≤ 8 ∧ Cl d 119 [.int a0] σ (Gk (d + 1) 38 14 [l0, l1, l2, l3, l4, l5] st Q) := gs_call f_38_14 ((xinv_call (i := 14) (n := 965) (ls := [l0, l1, l2, l3, l4, l5]) (kind := 4) (σ := σ) (by decide)).trans (xcall_st [.int a0] rfl (by decide) (show (1 : Nat) ≤ 1 by decide)))
theorem f_38_15 : ft 38 15 = some (27, .ifCond .eq 19, [22]) := rfl
theorem s_38_15 {d : Nat} {σ : xS} {st : List Value} {Q : xR → xS → Prop} {l0 l1 l2 l3 l4 l5 : Option Value} {x : Int32} : G d 38 15 [l0, l1, l2, l3, l4, l5] (.int x :: st) σ Q ↔ if x = 0 then G d 38 22 [l0, l1, l2, l3, l4, l5] st σ Q else G d 38 16 [l0, l1, l2, l3, l4, l5] st σ Q := gs_if f_38_15 rfl
theorem f_38_16 : ft 38 16 = some (30, .iload 4, []) := rfl
theorem s_38_16 {d : Nat} {σ : xS} {st : List Value} {Q : xR → xS → Prop} {l0 l1 l2 l3 l5 : Option Value} {x : Int32} : G d 38 16 [l0, l1, l2, l3, some (.int x), l5] st σ Q ↔ G d 38 17 [l0, l1, l2, l3, some (.int x), l5] (.int x :: st) σ Q := gs_go f_38_16 rfl
theorem f_38_17 : ft 38 17 = some (32, .invokestatic 94, [119, 1, 4, 965]) := rfl
theorem s_38_17 {d : Nat} {σ : xS} {st : List Value} {Q : xR → xS → Prop} {l0 l1 l2 l3 l4 l5 : Option Value} {a0 : Int32} : G (d + 1) 38 17 [l0, l1, l2, l3, l4, l5] (.int a0 :: st) σ Q ↔ xcat st ≤ 8 ∧ Cl d 119 [.int a0] σ (Gk (d + 1) 38 17 [l0, l1, l2, l3, l4, l5] st Q) := gs_call f_38_17 ((xinv_call (i := 17) (n := 965) (ls := [l0, l1, l2, l3, l4, l5]) (kind := 4) (σ := σ) (by decide)).trans (xcall_st [.int a0] rfl (by decide) (show (1 : Nat) ≤ 1 by decide)))
theorem f_38_18 : ft 38 18 = some (35, .ifCond .eq 11, [22]) := rfl
theorem s_38_18 {d : Nat} {σ : xS} {st : List Value} {Q : xR → xS → Prop} {l0 l1 l2 l3 l4 l5 : Option Value} {x : Int32} : G d 38 18 [l0, l1, l2, l3, l4, l5] (.int x :: st) σ Q ↔ if x = 0 then G d 38 22 [l0, l1, l2, l3, l4, l5] st σ Q else G d 38 19 [l0, l1, l2, l3, l4, l5] st σ Q := gs_if f_38_18 rfl
theorem f_38_19 : ft 38 19 = some (38, .iload 5, []) := rfl
theorem s_38_19 {d : Nat} {σ : xS} {st : List Value} {Q : xR → xS → Prop} {l0 l1 l2 l3 l4 : Option Value} {x : Int32} : G d 38 19 [l0, l1, l2, l3, l4, some (.int x)] st σ Q ↔ G d 38 20 [l0, l1, l2, l3, l4, some (.int x)] (.int x :: st) σ Q := gs_go f_38_19 rfl
theorem f_38_20 : ft 38 20 = some (40, .invokestatic 94, [119, 1, 4, 965]) := rfl
theorem s_38_20 {d : Nat} {σ : xS} {st : List Value} {Q : xR → xS → Prop} {l0 l1 l2 l3 l4 l5 : Option Value} {a0 : Int32} : G (d + 1) 38 20 [l0, l1, l2, l3, l4, l5] (.int a0 :: st) σ Q ↔ xcat st ≤ 8 ∧ Cl d 119 [.int a0] σ (Gk (d + 1) 38 20 [l0, l1, l2, l3, l4, l5] st Q) := gs_call f_38_20 ((xinv_call (i := 20) (n := 965) (ls := [l0, l1, l2, l3, l4, l5]) (kind := 4) (σ := σ) (by decide)).trans (xcall_st [.int a0] rfl (by decide) (show (1 : Nat) ≤ 1 by decide)))
theorem f_38_21 : ft 38 21 = some (43, .ifCond .ne 5, [24]) := rfl
theorem s_38_21 {d : Nat} {σ : xS} {st : List Value} {Q : xR → xS → Prop} {l0 l1 l2 l3 l4 l5 : Option Value} {x : Int32} : G d 38 21 [l0, l1, l2, l3, l4, l5] (.int x :: st) σ Q ↔ if x ≠ 0 then G d 38 24 [l0, l1, l2, l3, l4, l5] st σ Q else G d 38 22 [l0, l1, l2, l3, l4, l5] st σ Q := gs_if f_38_21 rfl
theorem f_38_22 : ft 38 22 = some (46, .iconst 2, []) := rfl
theorem s_38_22 {d : Nat} {σ : xS} {st : List Value} {Q : xR → xS → Prop} {l0 l1 l2 l3 l4 l5 : Option Value} : G d 38 22 [l0, l1, l2, l3, l4, l5] st σ Q ↔ G d 38 23 [l0, l1, l2, l3, l4, l5] (.int (2) :: st) σ Q := gs_go f_38_22 rfl
theorem f_38_23 : ft 38 23 = some (47, .ireturn, []) := rfl
theorem s_38_23 {d : Nat} {σ : xS} {ls : xL} {Q : xR → xS → Prop} {x : Int32} : G d 38 23 ls [.int x] σ Q ↔ Q (.inl (some (.int x))) σ := gs_reti f_38_23 rfl
theorem f_38_24 : ft 38 24 = some (48, .iconst 0, []) := rfl
theorem s_38_24 {d : Nat} {σ : xS} {st : List Value} {Q : xR → xS → Prop} {l0 l1 l2 l3 l4 l5 : Option Value} : G d 38 24 [l0, l1, l2, l3, l4, l5] st σ Q ↔ G d 38 25 [l0, l1, l2, l3, l4, l5] (.int (0) :: st) σ Q := gs_go f_38_24 rfl
theorem f_38_25 : ft 38 25 = some (49, .ireturn, []) := rfl
theorem s_38_25 {d : Nat} {σ : xS} {ls : xL} {Q : xR → xS → Prop} {x : Int32} : G d 38 25 ls [.int x] σ Q ↔ Q (.inl (some (.int x))) σ := gs_reti f_38_25 rfl
theorem f_39_0 : ft 39 0 = some (0, .iconst 0, []) := rfl
theorem s_39_0 {d : Nat} {σ : xS} {st : List Value} {Q : xR → xS → Prop} {l0 l1 l2 l3 l4 l5 : Option Value} : G d 39 0 [l0, l1, l2, l3, l4, l5] st σ Q ↔ G d 39 1 [l0, l1, l2, l3, l4, l5] (.int (0) :: st) σ Q := gs_go f_39_0 rfl
theorem f_39_1 : ft 39 1 = some (1, .istore 4, []) := rfl
theorem s_39_1 {d : Nat} {σ : xS} {st : List Value} {Q : xR → xS → Prop} {l0 l1 l2 l3 l4 l5 : Option Value} {x : Int32} : G d 39 1 [l0, l1, l2, l3, l4, l5] (.int x :: st) σ Q ↔ G d 39 2 [l0, l1, l2, ykl l3, some (.int x), l5] st σ Q := by
  cases l3 with
  | none => exact gs_go f_39_1 rfl
  | some v => cases v <;> exact gs_go f_39_1 rfl
theorem f_39_2 : ft 39 2 = some (3, .iload_n 1, []) := rfl
theorem s_39_2 {d : Nat} {σ : xS} {st : List Value} {Q : xR → xS → Prop} {l0 l2 l3 l4 l5 : Option Value} {x : Int32} : G d 39 2 [l0, some (.int x), l2, l3, l4, l5] st σ Q ↔ G d 39 3 [l0, some (.int x), l2, l3, l4, l5] (.int x :: st) σ Q := gs_go f_39_2 rfl
theorem f_39_3 : ft 39 3 = some (4, .istore 5, []) := rfl
theorem s_39_3 {d : Nat} {σ : xS} {st : List Value} {Q : xR → xS → Prop} {l0 l1 l2 l3 l4 l5 : Option Value} {x : Int32} : G d 39 3 [l0, l1, l2, l3, l4, l5] (.int x :: st) σ Q ↔ G d 39 4 [l0, l1, l2, l3, ykl l4, some (.int x)] st σ Q := by
  cases l4 with
  | none => exact gs_go f_39_3 rfl
  | some v => cases v <;> exact gs_go f_39_3 rfl
theorem f_39_4 : ft 39 4 = some (6, .iload 5, []) := rfl
theorem s_39_4 {d : Nat} {σ : xS} {st : List Value} {Q : xR → xS → Prop} {l0 l1 l2 l3 l4 : Option Value} {x : Int32} : G d 39 4 [l0, l1, l2, l3, l4, some (.int x)] st σ Q ↔ G d 39 5 [l0, l1, l2, l3, l4, some (.int x)] (.int x :: st) σ Q := gs_go f_39_4 rfl
theorem f_39_5 : ft 39 5 = some (8, .iload_n 2, []) := rfl
theorem s_39_5 {d : Nat} {σ : xS} {st : List Value} {Q : xR → xS → Prop} {l0 l1 l3 l4 l5 : Option Value} {x : Int32} : G d 39 5 [l0, l1, some (.int x), l3, l4, l5] st σ Q ↔ G d 39 6 [l0, l1, some (.int x), l3, l4, l5] (.int x :: st) σ Q := gs_go f_39_5 rfl
theorem f_39_6 : ft 39 6 = some (9, .if_icmp .gt 31, [21]) := rfl
theorem s_39_6 {d : Nat} {σ : xS} {st : List Value} {Q : xR → xS → Prop} {l0 l1 l2 l3 l4 l5 : Option Value} {x y : Int32} : G d 39 6 [l0, l1, l2, l3, l4, l5] (.int y :: .int x :: st) σ Q ↔ if y < x then G d 39 21 [l0, l1, l2, l3, l4, l5] st σ Q else G d 39 7 [l0, l1, l2, l3, l4, l5] st σ Q := gs_if f_39_6 rfl
theorem f_39_7 : ft 39 7 = some (12, .aload_n 0, []) := rfl
theorem s_39_7 {d : Nat} {σ : xS} {st : List Value} {Q : xR → xS → Prop} {l1 l2 l3 l4 l5 : Option Value} {x : Nat} : G d 39 7 [some (.ref x), l1, l2, l3, l4, l5] st σ Q ↔ G d 39 8 [some (.ref x), l1, l2, l3, l4, l5] (.ref x :: st) σ Q := gs_go f_39_7 rfl
theorem f_39_8 : ft 39 8 = some (13, .getfield 9, [4, 0, 0, 142]) := rfl
theorem s_39_8 {d : Nat} {t : yT} {st : List Value} {Q : xR → xS → Prop} {l0 l1 l2 l3 l4 l5 : Option Value} {a : Nat} (ho : yisO 4 a) : G d 39 8 [l0, l1, l2, l3, l4, l5] (.ref a :: st) (yemb t) Q ↔ G d 39 9 [l0, l1, l2, l3, l4, l5] (.ref (a + 1) :: st) (yemb t) Q := gs_getf (c := 4) (j := 0) (q := .c (a + 1)) f_39_8 ho rfl
theorem f_39_9 : ft 39 9 = some (16, .iload 5, []) := rfl
theorem s_39_9 {d : Nat} {σ : xS} {st : List Value} {Q : xR → xS → Prop} {l0 l1 l2 l3 l4 : Option Value} {x : Int32} : G d 39 9 [l0, l1, l2, l3, l4, some (.int x)] st σ Q ↔ G d 39 10 [l0, l1, l2, l3, l4, some (.int x)] (.int x :: st) σ Q := gs_go f_39_9 rfl
theorem f_39_10 : ft 39 10 = some (18, .iaload, []) := rfl
theorem s_39_10 {d : Nat} {t : yT} {st : List Value} {Q : xR → xS → Prop} {l0 l1 l2 l3 l4 l5 : Option Value} {a : Nat} {x : Int32} (ha : yA 0 a) : G d 39 10 [l0, l1, l2, l3, l4, l5] (.int x :: .ref a :: st) (yemb t) Q ↔ yix x (yn a) ∧ G d 39 11 [l0, l1, l2, l3, l4, l5] (.int (t.A a x.toNatClampNeg) :: st) (yemb t) Q := gs_iald f_39_10 ha
theorem f_39_11 : ft 39 11 = some (19, .iload_n 3, []) := rfl
theorem s_39_11 {d : Nat} {σ : xS} {st : List Value} {Q : xR → xS → Prop} {l0 l1 l2 l4 l5 : Option Value} {x : Int32} : G d 39 11 [l0, l1, l2, some (.int x), l4, l5] st σ Q ↔ G d 39 12 [l0, l1, l2, some (.int x), l4, l5] (.int x :: st) σ Q := gs_go f_39_11 rfl
theorem f_39_12 : ft 39 12 = some (20, .if_icmp .eq 14, [19]) := rfl
theorem s_39_12 {d : Nat} {σ : xS} {st : List Value} {Q : xR → xS → Prop} {l0 l1 l2 l3 l4 l5 : Option Value} {x y : Int32} : G d 39 12 [l0, l1, l2, l3, l4, l5] (.int y :: .int x :: st) σ Q ↔ if x = y then G d 39 19 [l0, l1, l2, l3, l4, l5] st σ Q else G d 39 13 [l0, l1, l2, l3, l4, l5] st σ Q := gs_if f_39_12 rfl
theorem f_39_13 : ft 39 13 = some (23, .aload_n 0, []) := rfl
theorem s_39_13 {d : Nat} {σ : xS} {st : List Value} {Q : xR → xS → Prop} {l1 l2 l3 l4 l5 : Option Value} {x : Nat} : G d 39 13 [some (.ref x), l1, l2, l3, l4, l5] st σ Q ↔ G d 39 14 [some (.ref x), l1, l2, l3, l4, l5] (.ref x :: st) σ Q := gs_go f_39_13 rfl
theorem f_39_14 : ft 39 14 = some (24, .getfield 9, [4, 0, 0, 142]) := rfl
theorem s_39_14 {d : Nat} {t : yT} {st : List Value} {Q : xR → xS → Prop} {l0 l1 l2 l3 l4 l5 : Option Value} {a : Nat} (ho : yisO 4 a) : G d 39 14 [l0, l1, l2, l3, l4, l5] (.ref a :: st) (yemb t) Q ↔ G d 39 15 [l0, l1, l2, l3, l4, l5] (.ref (a + 1) :: st) (yemb t) Q := gs_getf (c := 4) (j := 0) (q := .c (a + 1)) f_39_14 ho rfl
theorem f_39_15 : ft 39 15 = some (27, .iload 5, []) := rfl
theorem s_39_15 {d : Nat} {σ : xS} {st : List Value} {Q : xR → xS → Prop} {l0 l1 l2 l3 l4 : Option Value} {x : Int32} : G d 39 15 [l0, l1, l2, l3, l4, some (.int x)] st σ Q ↔ G d 39 16 [l0, l1, l2, l3, l4, some (.int x)] (.int x :: st) σ Q := gs_go f_39_15 rfl
theorem f_39_16 : ft 39 16 = some (29, .iload_n 3, []) := rfl
theorem s_39_16 {d : Nat} {σ : xS} {st : List Value} {Q : xR → xS → Prop} {l0 l1 l2 l4 l5 : Option Value} {x : Int32} : G d 39 16 [l0, l1, l2, some (.int x), l4, l5] st σ Q ↔ G d 39 17 [l0, l1, l2, some (.int x), l4, l5] (.int x :: st) σ Q := gs_go f_39_16 rfl
theorem f_39_17 : ft 39 17 = some (30, .iastore, []) := rfl
theorem s_39_17 {d : Nat} {t : yT} {st : List Value} {Q : xR → xS → Prop} {l0 l1 l2 l3 l4 l5 : Option Value} {a : Nat} {x v : Int32} (ha : yA 0 a) : G d 39 17 [l0, l1, l2, l3, l4, l5] (.int v :: .int x :: .ref a :: st) (yemb t) Q ↔ yix x (yn a) ∧ G d 39 18 [l0, l1, l2, l3, l4, l5] st (yemb (t.s1 a x.toNatClampNeg v)) Q := gs_iast f_39_17 ha
theorem f_39_18 : ft 39 18 = some (31, .iinc 4 1, []) := rfl
theorem s_39_18 {d : Nat} {σ : xS} {st : List Value} {Q : xR → xS → Prop} {l0 l1 l2 l3 l5 : Option Value} {x : Int32} : G d 39 18 [l0, l1, l2, l3, some (.int x), l5] st σ Q ↔ G d 39 19 [l0, l1, l2, ykl l3, some (.int (x + 1)), l5] st σ Q := by
  cases l3 with
  | none => exact gs_go f_39_18 rfl
  | some v => cases v <;> exact gs_go f_39_18 rfl
theorem f_39_19 : ft 39 19 = some (34, .iinc 5 1, []) := rfl
theorem s_39_19 {d : Nat} {σ : xS} {st : List Value} {Q : xR → xS → Prop} {l0 l1 l2 l3 l4 : Option Value} {x : Int32} : G d 39 19 [l0, l1, l2, l3, l4, some (.int x)] st σ Q ↔ G d 39 20 [l0, l1, l2, l3, ykl l4, some (.int (x + 1))] st σ Q := by
  cases l4 with
  | none => exact gs_go f_39_19 rfl
  | some v => cases v <;> exact gs_go f_39_19 rfl
theorem f_39_20 : ft 39 20 = some (37, .goto (-31), [4]) := rfl
theorem s_39_20 {d : Nat} {σ : xS} {st : List Value} {Q : xR → xS → Prop} {l0 l1 l2 l3 l4 l5 : Option Value} : G d 39 20 [l0, l1, l2, l3, l4, l5] st σ Q ↔ G d 39 4 [l0, l1, l2, l3, l4, l5] st σ Q := gs_go f_39_20 rfl
theorem f_39_21 : ft 39 21 = some (40, .iload 4, []) := rfl
theorem s_39_21 {d : Nat} {σ : xS} {st : List Value} {Q : xR → xS → Prop} {l0 l1 l2 l3 l5 : Option Value} {x : Int32} : G d 39 21 [l0, l1, l2, l3, some (.int x), l5] st σ Q ↔ G d 39 22 [l0, l1, l2, l3, some (.int x), l5] (.int x :: st) σ Q := gs_go f_39_21 rfl
theorem f_39_22 : ft 39 22 = some (42, .ireturn, []) := rfl
theorem s_39_22 {d : Nat} {σ : xS} {ls : xL} {Q : xR → xS → Prop} {x : Int32} : G d 39 22 ls [.int x] σ Q ↔ Q (.inl (some (.int x))) σ := gs_reti f_39_22 rfl
theorem f_40_0 : ft 40 0 = some (0, .aload_n 0, []) := rfl
theorem s_40_0 {d : Nat} {σ : xS} {st : List Value} {Q : xR → xS → Prop} {l1 l2 : Option Value} {x : Nat} : G d 40 0 [some (.ref x), l1, l2] st σ Q ↔ G d 40 1 [some (.ref x), l1, l2] (.ref x :: st) σ Q := gs_go f_40_0 rfl
theorem f_40_1 : ft 40 1 = some (1, .getfield 9, [4, 0, 0, 142]) := rfl
theorem s_40_1 {d : Nat} {t : yT} {st : List Value} {Q : xR → xS → Prop} {l0 l1 l2 : Option Value} {a : Nat} (ho : yisO 4 a) : G d 40 1 [l0, l1, l2] (.ref a :: st) (yemb t) Q ↔ G d 40 2 [l0, l1, l2] (.ref (a + 1) :: st) (yemb t) Q := gs_getf (c := 4) (j := 0) (q := .c (a + 1)) f_40_1 ho rfl
theorem f_40_2 : ft 40 2 = some (4, .iconst 0, []) := rfl
theorem s_40_2 {d : Nat} {σ : xS} {st : List Value} {Q : xR → xS → Prop} {l0 l1 l2 : Option Value} : G d 40 2 [l0, l1, l2] st σ Q ↔ G d 40 3 [l0, l1, l2] (.int (0) :: st) σ Q := gs_go f_40_2 rfl
theorem f_40_3 : ft 40 3 = some (5, .aload_n 0, []) := rfl
theorem s_40_3 {d : Nat} {σ : xS} {st : List Value} {Q : xR → xS → Prop} {l1 l2 : Option Value} {x : Nat} : G d 40 3 [some (.ref x), l1, l2] st σ Q ↔ G d 40 4 [some (.ref x), l1, l2] (.ref x :: st) σ Q := gs_go f_40_3 rfl
theorem f_40_4 : ft 40 4 = some (6, .getfield 39, [4, 17, 0, 180]) := rfl
theorem s_40_4 {d : Nat} {t : yT} {st : List Value} {Q : xR → xS → Prop} {l0 l1 l2 : Option Value} {a : Nat} (ho : yisO 4 a) : G d 40 4 [l0, l1, l2] (.ref a :: st) (yemb t) Q ↔ G d 40 5 [l0, l1, l2] (.ref (a + 10) :: st) (yemb t) Q := gs_getf (c := 4) (j := 17) (q := .c (a + 10)) f_40_4 ho rfl
theorem f_40_5 : ft 40 5 = some (9, .iconst 0, []) := rfl
theorem s_40_5 {d : Nat} {σ : xS} {st : List Value} {Q : xR → xS → Prop} {l0 l1 l2 : Option Value} : G d 40 5 [l0, l1, l2] st σ Q ↔ G d 40 6 [l0, l1, l2] (.int (0) :: st) σ Q := gs_go f_40_5 rfl
theorem f_40_6 : ft 40 6 = some (10, .aload_n 0, []) := rfl
theorem s_40_6 {d : Nat} {σ : xS} {st : List Value} {Q : xR → xS → Prop} {l1 l2 : Option Value} {x : Nat} : G d 40 6 [some (.ref x), l1, l2] st σ Q ↔ G d 40 7 [some (.ref x), l1, l2] (.ref x :: st) σ Q := gs_go f_40_6 rfl
theorem f_40_7 : ft 40 7 = some (11, .getfield 46, [4, 9, 0, 160]) := rfl
theorem s_40_7 {d : Nat} {t : yT} {st : List Value} {Q : xR → xS → Prop} {l0 l1 l2 : Option Value} {a : Nat} (ho : yisO 4 a) : G d 40 7 [l0, l1, l2] (.ref a :: st) (yemb t) Q ↔ G d 40 8 [l0, l1, l2] (.int (t.A a 9) :: st) (yemb t) Q := gs_getf (c := 4) (j := 9) (q := .i) f_40_7 ho rfl
theorem f_40_8 : ft 40 8 = some (14, .invokestatic 78, [0, 5, 21, 376]) := rfl
theorem f_40_9 : ft 40 9 = some (17, .iconst 0, []) := rfl
theorem s_40_9 {d : Nat} {σ : xS} {st : List Value} {Q : xR → xS → Prop} {l0 l1 l2 : Option Value} : G d 40 9 [l0, l1, l2] st σ Q ↔ G d 40 10 [l0, l1, l2] (.int (0) :: st) σ Q := gs_go f_40_9 rfl
theorem f_40_10 : ft 40 10 = some (18, .istore_n 2, []) := rfl
theorem s_40_10 {d : Nat} {σ : xS} {st : List Value} {Q : xR → xS → Prop} {l0 l1 l2 : Option Value} {x : Int32} : G d 40 10 [l0, l1, l2] (.int x :: st) σ Q ↔ G d 40 11 [l0, ykl l1, some (.int x)] st σ Q := by
  cases l1 with
  | none => exact gs_go f_40_10 rfl
  | some v => cases v <;> exact gs_go f_40_10 rfl
theorem f_40_11 : ft 40 11 = some (19, .iload_n 2, []) := rfl
theorem s_40_11 {d : Nat} {σ : xS} {st : List Value} {Q : xR → xS → Prop} {l0 l1 : Option Value} {x : Int32} : G d 40 11 [l0, l1, some (.int x)] st σ Q ↔ G d 40 12 [l0, l1, some (.int x)] (.int x :: st) σ Q := gs_go f_40_11 rfl
theorem f_40_12 : ft 40 12 = some (20, .aload_n 0, []) := rfl
theorem s_40_12 {d : Nat} {σ : xS} {st : List Value} {Q : xR → xS → Prop} {l1 l2 : Option Value} {x : Nat} : G d 40 12 [some (.ref x), l1, l2] st σ Q ↔ G d 40 13 [some (.ref x), l1, l2] (.ref x :: st) σ Q := gs_go f_40_12 rfl
theorem f_40_13 : ft 40 13 = some (21, .getfield 46, [4, 9, 0, 160]) := rfl
theorem s_40_13 {d : Nat} {t : yT} {st : List Value} {Q : xR → xS → Prop} {l0 l1 l2 : Option Value} {a : Nat} (ho : yisO 4 a) : G d 40 13 [l0, l1, l2] (.ref a :: st) (yemb t) Q ↔ G d 40 14 [l0, l1, l2] (.int (t.A a 9) :: st) (yemb t) Q := gs_getf (c := 4) (j := 9) (q := .i) f_40_13 ho rfl
theorem f_40_14 : ft 40 14 = some (24, .if_icmp .ge 28, [30]) := rfl
theorem s_40_14 {d : Nat} {σ : xS} {st : List Value} {Q : xR → xS → Prop} {l0 l1 l2 : Option Value} {x y : Int32} : G d 40 14 [l0, l1, l2] (.int y :: .int x :: st) σ Q ↔ if y ≤ x then G d 40 30 [l0, l1, l2] st σ Q else G d 40 15 [l0, l1, l2] st σ Q := gs_if f_40_14 rfl
theorem f_40_15 : ft 40 15 = some (27, .aload_n 0, []) := rfl
theorem s_40_15 {d : Nat} {σ : xS} {st : List Value} {Q : xR → xS → Prop} {l1 l2 : Option Value} {x : Nat} : G d 40 15 [some (.ref x), l1, l2] st σ Q ↔ G d 40 16 [some (.ref x), l1, l2] (.ref x :: st) σ Q := gs_go f_40_15 rfl
theorem f_40_16 : ft 40 16 = some (28, .getfield 9, [4, 0, 0, 142]) := rfl
theorem s_40_16 {d : Nat} {t : yT} {st : List Value} {Q : xR → xS → Prop} {l0 l1 l2 : Option Value} {a : Nat} (ho : yisO 4 a) : G d 40 16 [l0, l1, l2] (.ref a :: st) (yemb t) Q ↔ G d 40 17 [l0, l1, l2] (.ref (a + 1) :: st) (yemb t) Q := gs_getf (c := 4) (j := 0) (q := .c (a + 1)) f_40_16 ho rfl
theorem f_40_17 : ft 40 17 = some (31, .iload_n 2, []) := rfl
theorem s_40_17 {d : Nat} {σ : xS} {st : List Value} {Q : xR → xS → Prop} {l0 l1 : Option Value} {x : Int32} : G d 40 17 [l0, l1, some (.int x)] st σ Q ↔ G d 40 18 [l0, l1, some (.int x)] (.int x :: st) σ Q := gs_go f_40_17 rfl
theorem f_40_18 : ft 40 18 = some (32, .iload_n 1, []) := rfl
theorem s_40_18 {d : Nat} {σ : xS} {st : List Value} {Q : xR → xS → Prop} {l0 l2 : Option Value} {x : Int32} : G d 40 18 [l0, some (.int x), l2] st σ Q ↔ G d 40 19 [l0, some (.int x), l2] (.int x :: st) σ Q := gs_go f_40_18 rfl
theorem f_40_19 : ft 40 19 = some (33, .iadd, []) := rfl
theorem s_40_19 {d : Nat} {σ : xS} {st : List Value} {Q : xR → xS → Prop} {l0 l1 l2 : Option Value} {x y : Int32} : G d 40 19 [l0, l1, l2] (.int y :: .int x :: st) σ Q ↔ G d 40 20 [l0, l1, l2] (.int (x + y) :: st) σ Q := gs_go f_40_19 rfl
theorem f_40_20 : ft 40 20 = some (34, .aload_n 0, []) := rfl
theorem s_40_20 {d : Nat} {σ : xS} {st : List Value} {Q : xR → xS → Prop} {l1 l2 : Option Value} {x : Nat} : G d 40 20 [some (.ref x), l1, l2] st σ Q ↔ G d 40 21 [some (.ref x), l1, l2] (.ref x :: st) σ Q := gs_go f_40_20 rfl
theorem f_40_21 : ft 40 21 = some (35, .getfield 46, [4, 9, 0, 160]) := rfl
theorem s_40_21 {d : Nat} {t : yT} {st : List Value} {Q : xR → xS → Prop} {l0 l1 l2 : Option Value} {a : Nat} (ho : yisO 4 a) : G d 40 21 [l0, l1, l2] (.ref a :: st) (yemb t) Q ↔ G d 40 22 [l0, l1, l2] (.int (t.A a 9) :: st) (yemb t) Q := gs_getf (c := 4) (j := 9) (q := .i) f_40_21 ho rfl
theorem f_40_22 : ft 40 22 = some (38, .irem, []) := rfl
theorem s_40_22 {d : Nat} {σ : xS} {st : List Value} {Q : xR → xS → Prop} {l0 l1 l2 : Option Value} {x y : Int32} (h : ¬ y = 0) : G d 40 22 [l0, l1, l2] (.int y :: .int x :: st) σ Q ↔ G d 40 23 [l0, l1, l2] (.int (x - x / y * y) :: st) σ Q := gs_go f_40_22 (if_pos h)
theorem f_40_23 : ft 40 23 = some (39, .aload_n 0, []) := rfl
theorem s_40_23 {d : Nat} {σ : xS} {st : List Value} {Q : xR → xS → Prop} {l1 l2 : Option Value} {x : Nat} : G d 40 23 [some (.ref x), l1, l2] st σ Q ↔ G d 40 24 [some (.ref x), l1, l2] (.ref x :: st) σ Q := gs_go f_40_23 rfl
theorem f_40_24 : ft 40 24 = some (40, .getfield 39, [4, 17, 0, 180]) := rfl
theorem s_40_24 {d : Nat} {t : yT} {st : List Value} {Q : xR → xS → Prop} {l0 l1 l2 : Option Value} {a : Nat} (ho : yisO 4 a) : G d 40 24 [l0, l1, l2] (.ref a :: st) (yemb t) Q ↔ G d 40 25 [l0, l1, l2] (.ref (a + 10) :: st) (yemb t) Q := gs_getf (c := 4) (j := 17) (q := .c (a + 10)) f_40_24 ho rfl
theorem f_40_25 : ft 40 25 = some (43, .iload_n 2, []) := rfl
theorem s_40_25 {d : Nat} {σ : xS} {st : List Value} {Q : xR → xS → Prop} {l0 l1 : Option Value} {x : Int32} : G d 40 25 [l0, l1, some (.int x)] st σ Q ↔ G d 40 26 [l0, l1, some (.int x)] (.int x :: st) σ Q := gs_go f_40_25 rfl
theorem f_40_26 : ft 40 26 = some (44, .iaload, []) := rfl
theorem s_40_26 {d : Nat} {t : yT} {st : List Value} {Q : xR → xS → Prop} {l0 l1 l2 : Option Value} {a : Nat} {x : Int32} (ha : yA 0 a) : G d 40 26 [l0, l1, l2] (.int x :: .ref a :: st) (yemb t) Q ↔ yix x (yn a) ∧ G d 40 27 [l0, l1, l2] (.int (t.A a x.toNatClampNeg) :: st) (yemb t) Q := gs_iald f_40_26 ha
theorem f_40_27 : ft 40 27 = some (45, .iastore, []) := rfl
theorem s_40_27 {d : Nat} {t : yT} {st : List Value} {Q : xR → xS → Prop} {l0 l1 l2 : Option Value} {a : Nat} {x v : Int32} (ha : yA 0 a) : G d 40 27 [l0, l1, l2] (.int v :: .int x :: .ref a :: st) (yemb t) Q ↔ yix x (yn a) ∧ G d 40 28 [l0, l1, l2] st (yemb (t.s1 a x.toNatClampNeg v)) Q := gs_iast f_40_27 ha
theorem f_40_28 : ft 40 28 = some (46, .iinc 2 1, []) := rfl
theorem s_40_28 {d : Nat} {σ : xS} {st : List Value} {Q : xR → xS → Prop} {l0 l1 : Option Value} {x : Int32} : G d 40 28 [l0, l1, some (.int x)] st σ Q ↔ G d 40 29 [l0, ykl l1, some (.int (x + 1))] st σ Q := by
  cases l1 with
  | none => exact gs_go f_40_28 rfl
  | some v => cases v <;> exact gs_go f_40_28 rfl
theorem f_40_29 : ft 40 29 = some (49, .goto (-30), [11]) := rfl
theorem s_40_29 {d : Nat} {σ : xS} {st : List Value} {Q : xR → xS → Prop} {l0 l1 l2 : Option Value} : G d 40 29 [l0, l1, l2] st σ Q ↔ G d 40 11 [l0, l1, l2] st σ Q := gs_go f_40_29 rfl
theorem f_40_30 : ft 40 30 = some (52, .aload_n 0, []) := rfl
theorem s_40_30 {d : Nat} {σ : xS} {st : List Value} {Q : xR → xS → Prop} {l1 l2 : Option Value} {x : Nat} : G d 40 30 [some (.ref x), l1, l2] st σ Q ↔ G d 40 31 [some (.ref x), l1, l2] (.ref x :: st) σ Q := gs_go f_40_30 rfl
theorem f_40_31 : ft 40 31 = some (53, .getfield 9, [4, 0, 0, 142]) := rfl
theorem s_40_31 {d : Nat} {t : yT} {st : List Value} {Q : xR → xS → Prop} {l0 l1 l2 : Option Value} {a : Nat} (ho : yisO 4 a) : G d 40 31 [l0, l1, l2] (.ref a :: st) (yemb t) Q ↔ G d 40 32 [l0, l1, l2] (.ref (a + 1) :: st) (yemb t) Q := gs_getf (c := 4) (j := 0) (q := .c (a + 1)) f_40_31 ho rfl
theorem f_40_32 : ft 40 32 = some (56, .iconst 0, []) := rfl
theorem s_40_32 {d : Nat} {σ : xS} {st : List Value} {Q : xR → xS → Prop} {l0 l1 l2 : Option Value} : G d 40 32 [l0, l1, l2] st σ Q ↔ G d 40 33 [l0, l1, l2] (.int (0) :: st) σ Q := gs_go f_40_32 rfl
theorem f_40_33 : ft 40 33 = some (57, .iaload, []) := rfl
theorem s_40_33 {d : Nat} {t : yT} {st : List Value} {Q : xR → xS → Prop} {l0 l1 l2 : Option Value} {a : Nat} {x : Int32} (ha : yA 0 a) : G d 40 33 [l0, l1, l2] (.int x :: .ref a :: st) (yemb t) Q ↔ yix x (yn a) ∧ G d 40 34 [l0, l1, l2] (.int (t.A a x.toNatClampNeg) :: st) (yemb t) Q := gs_iald f_40_33 ha
theorem f_40_34 : ft 40 34 = some (58, .ireturn, []) := rfl
theorem s_40_34 {d : Nat} {σ : xS} {ls : xL} {Q : xR → xS → Prop} {x : Int32} : G d 40 34 ls [.int x] σ Q ↔ Q (.inl (some (.int x))) σ := gs_reti f_40_34 rfl
theorem f_41_0 : ft 41 0 = some (0, .iload_n 1, []) := rfl
theorem s_41_0 {d : Nat} {σ : xS} {st : List Value} {Q : xR → xS → Prop} {l0 l2 l3 : Option Value} {x : Int32} : G d 41 0 [l0, some (.int x), l2, l3] st σ Q ↔ G d 41 1 [l0, some (.int x), l2, l3] (.int x :: st) σ Q := gs_go f_41_0 rfl
theorem f_41_1 : ft 41 1 = some (1, .ifCond .ne 13, [8]) := rfl
theorem s_41_1 {d : Nat} {σ : xS} {st : List Value} {Q : xR → xS → Prop} {l0 l1 l2 l3 : Option Value} {x : Int32} : G d 41 1 [l0, l1, l2, l3] (.int x :: st) σ Q ↔ if x ≠ 0 then G d 41 8 [l0, l1, l2, l3] st σ Q else G d 41 2 [l0, l1, l2, l3] st σ Q := gs_if f_41_1 rfl
theorem f_41_2 : ft 41 2 = some (4, .aload_n 0, []) := rfl
theorem s_41_2 {d : Nat} {σ : xS} {st : List Value} {Q : xR → xS → Prop} {l1 l2 l3 : Option Value} {x : Nat} : G d 41 2 [some (.ref x), l1, l2, l3] st σ Q ↔ G d 41 3 [some (.ref x), l1, l2, l3] (.ref x :: st) σ Q := gs_go f_41_2 rfl
theorem f_41_3 : ft 41 3 = some (5, .getfield 36, [4, 8, 0, 158]) := rfl
theorem s_41_3 {d : Nat} {t : yT} {st : List Value} {Q : xR → xS → Prop} {l0 l1 l2 l3 : Option Value} {a : Nat} (ho : yisO 4 a) : G d 41 3 [l0, l1, l2, l3] (.ref a :: st) (yemb t) Q ↔ G d 41 4 [l0, l1, l2, l3] (.ref (a + 9) :: st) (yemb t) Q := gs_getf (c := 4) (j := 8) (q := .c (a + 9)) f_41_3 ho rfl
theorem f_41_4 : ft 41 4 = some (8, .iconst 0, []) := rfl
theorem s_41_4 {d : Nat} {σ : xS} {st : List Value} {Q : xR → xS → Prop} {l0 l1 l2 l3 : Option Value} : G d 41 4 [l0, l1, l2, l3] st σ Q ↔ G d 41 5 [l0, l1, l2, l3] (.int (0) :: st) σ Q := gs_go f_41_4 rfl
theorem f_41_5 : ft 41 5 = some (9, .iload_n 2, []) := rfl
theorem s_41_5 {d : Nat} {σ : xS} {st : List Value} {Q : xR → xS → Prop} {l0 l1 l3 : Option Value} {x : Int32} : G d 41 5 [l0, l1, some (.int x), l3] st σ Q ↔ G d 41 6 [l0, l1, some (.int x), l3] (.int x :: st) σ Q := gs_go f_41_5 rfl
theorem f_41_6 : ft 41 6 = some (10, .iastore, []) := rfl
theorem s_41_6 {d : Nat} {t : yT} {st : List Value} {Q : xR → xS → Prop} {l0 l1 l2 l3 : Option Value} {a : Nat} {x v : Int32} (ha : yA 0 a) : G d 41 6 [l0, l1, l2, l3] (.int v :: .int x :: .ref a :: st) (yemb t) Q ↔ yix x (yn a) ∧ G d 41 7 [l0, l1, l2, l3] st (yemb (t.s1 a x.toNatClampNeg v)) Q := gs_iast f_41_6 ha
theorem f_41_7 : ft 41 7 = some (11, .goto 92, [64]) := rfl
theorem s_41_7 {d : Nat} {σ : xS} {st : List Value} {Q : xR → xS → Prop} {l0 l1 l2 l3 : Option Value} : G d 41 7 [l0, l1, l2, l3] st σ Q ↔ G d 41 64 [l0, l1, l2, l3] st σ Q := gs_go f_41_7 rfl
theorem f_41_8 : ft 41 8 = some (14, .aload_n 0, []) := rfl
theorem s_41_8 {d : Nat} {σ : xS} {st : List Value} {Q : xR → xS → Prop} {l1 l2 l3 : Option Value} {x : Nat} : G d 41 8 [some (.ref x), l1, l2, l3] st σ Q ↔ G d 41 9 [some (.ref x), l1, l2, l3] (.ref x :: st) σ Q := gs_go f_41_8 rfl
theorem f_41_9 : ft 41 9 = some (15, .getfield 69, [4, 12, 0, 169]) := rfl
theorem s_41_9 {d : Nat} {t : yT} {st : List Value} {Q : xR → xS → Prop} {l0 l1 l2 l3 : Option Value} {a : Nat} (ho : yisO 4 a) : G d 41 9 [l0, l1, l2, l3] (.ref a :: st) (yemb t) Q ↔ G d 41 10 [l0, l1, l2, l3] (.int (t.A a 12) :: st) (yemb t) Q := gs_getf (c := 4) (j := 12) (q := .i) f_41_9 ho rfl
theorem f_41_10 : ft 41 10 = some (18, .bipush 6, []) := rfl
theorem s_41_10 {d : Nat} {σ : xS} {st : List Value} {Q : xR → xS → Prop} {l0 l1 l2 l3 : Option Value} : G d 41 10 [l0, l1, l2, l3] st σ Q ↔ G d 41 11 [l0, l1, l2, l3] (.int (6) :: st) σ Q := gs_go f_41_10 rfl
theorem f_41_11 : ft 41 11 = some (20, .if_icmp .ge 83, [64]) := rfl
theorem s_41_11 {d : Nat} {σ : xS} {st : List Value} {Q : xR → xS → Prop} {l0 l1 l2 l3 : Option Value} {x y : Int32} : G d 41 11 [l0, l1, l2, l3] (.int y :: .int x :: st) σ Q ↔ if y ≤ x then G d 41 64 [l0, l1, l2, l3] st σ Q else G d 41 12 [l0, l1, l2, l3] st σ Q := gs_if f_41_11 rfl
theorem f_41_12 : ft 41 12 = some (23, .aload_n 0, []) := rfl
theorem s_41_12 {d : Nat} {σ : xS} {st : List Value} {Q : xR → xS → Prop} {l1 l2 l3 : Option Value} {x : Nat} : G d 41 12 [some (.ref x), l1, l2, l3] st σ Q ↔ G d 41 13 [some (.ref x), l1, l2, l3] (.ref x :: st) σ Q := gs_go f_41_12 rfl
theorem f_41_13 : ft 41 13 = some (24, .getfield 69, [4, 12, 0, 169]) := rfl
theorem s_41_13 {d : Nat} {t : yT} {st : List Value} {Q : xR → xS → Prop} {l0 l1 l2 l3 : Option Value} {a : Nat} (ho : yisO 4 a) : G d 41 13 [l0, l1, l2, l3] (.ref a :: st) (yemb t) Q ↔ G d 41 14 [l0, l1, l2, l3] (.int (t.A a 12) :: st) (yemb t) Q := gs_getf (c := 4) (j := 12) (q := .i) f_41_13 ho rfl
theorem f_41_14 : ft 41 14 = some (27, .istore_n 3, []) := rfl
theorem s_41_14 {d : Nat} {σ : xS} {st : List Value} {Q : xR → xS → Prop} {l0 l1 l2 l3 : Option Value} {x : Int32} : G d 41 14 [l0, l1, l2, l3] (.int x :: st) σ Q ↔ G d 41 15 [l0, l1, ykl l2, some (.int x)] st σ Q := by
  cases l2 with
  | none => exact gs_go f_41_14 rfl
  | some v => cases v <;> exact gs_go f_41_14 rfl
theorem f_41_15 : ft 41 15 = some (28, .iload_n 3, []) := rfl
theorem s_41_15 {d : Nat} {σ : xS} {st : List Value} {Q : xR → xS → Prop} {l0 l1 l2 : Option Value} {x : Int32} : G d 41 15 [l0, l1, l2, some (.int x)] st σ Q ↔ G d 41 16 [l0, l1, l2, some (.int x)] (.int x :: st) σ Q := gs_go f_41_15 rfl
theorem f_41_16 : ft 41 16 = some (29, .iconst 1, []) := rfl
theorem s_41_16 {d : Nat} {σ : xS} {st : List Value} {Q : xR → xS → Prop} {l0 l1 l2 l3 : Option Value} : G d 41 16 [l0, l1, l2, l3] st σ Q ↔ G d 41 17 [l0, l1, l2, l3] (.int (1) :: st) σ Q := gs_go f_41_16 rfl
theorem f_41_17 : ft 41 17 = some (30, .if_icmp .le 49, [48]) := rfl
theorem s_41_17 {d : Nat} {σ : xS} {st : List Value} {Q : xR → xS → Prop} {l0 l1 l2 l3 : Option Value} {x y : Int32} : G d 41 17 [l0, l1, l2, l3] (.int y :: .int x :: st) σ Q ↔ if x ≤ y then G d 41 48 [l0, l1, l2, l3] st σ Q else G d 41 18 [l0, l1, l2, l3] st σ Q := gs_if f_41_17 rfl
theorem f_41_18 : ft 41 18 = some (33, .aload_n 0, []) := rfl
theorem s_41_18 {d : Nat} {σ : xS} {st : List Value} {Q : xR → xS → Prop} {l1 l2 l3 : Option Value} {x : Nat} : G d 41 18 [some (.ref x), l1, l2, l3] st σ Q ↔ G d 41 19 [some (.ref x), l1, l2, l3] (.ref x :: st) σ Q := gs_go f_41_18 rfl
theorem f_41_19 : ft 41 19 = some (34, .getfield 33, [4, 7, 0, 156]) := rfl
theorem s_41_19 {d : Nat} {t : yT} {st : List Value} {Q : xR → xS → Prop} {l0 l1 l2 l3 : Option Value} {a : Nat} (ho : yisO 4 a) : G d 41 19 [l0, l1, l2, l3] (.ref a :: st) (yemb t) Q ↔ G d 41 20 [l0, l1, l2, l3] (.ref (a + 8) :: st) (yemb t) Q := gs_getf (c := 4) (j := 7) (q := .c (a + 8)) f_41_19 ho rfl
theorem f_41_20 : ft 41 20 = some (37, .iload_n 3, []) := rfl
theorem s_41_20 {d : Nat} {σ : xS} {st : List Value} {Q : xR → xS → Prop} {l0 l1 l2 : Option Value} {x : Int32} : G d 41 20 [l0, l1, l2, some (.int x)] st σ Q ↔ G d 41 21 [l0, l1, l2, some (.int x)] (.int x :: st) σ Q := gs_go f_41_20 rfl
theorem f_41_21 : ft 41 21 = some (38, .iconst 1, []) := rfl
theorem s_41_21 {d : Nat} {σ : xS} {st : List Value} {Q : xR → xS → Prop} {l0 l1 l2 l3 : Option Value} : G d 41 21 [l0, l1, l2, l3] st σ Q ↔ G d 41 22 [l0, l1, l2, l3] (.int (1) :: st) σ Q := gs_go f_41_21 rfl
theorem f_41_22 : ft 41 22 = some (39, .isub, []) := rfl
theorem s_41_22 {d : Nat} {σ : xS} {st : List Value} {Q : xR → xS → Prop} {l0 l1 l2 l3 : Option Value} {x y : Int32} : G d 41 22 [l0, l1, l2, l3] (.int y :: .int x :: st) σ Q ↔ G d 41 23 [l0, l1, l2, l3] (.int (x - y) :: st) σ Q := gs_go f_41_22 rfl
theorem f_41_23 : ft 41 23 = some (40, .iaload, []) := rfl
theorem s_41_23 {d : Nat} {t : yT} {st : List Value} {Q : xR → xS → Prop} {l0 l1 l2 l3 : Option Value} {a : Nat} {x : Int32} (ha : yA 0 a) : G d 41 23 [l0, l1, l2, l3] (.int x :: .ref a :: st) (yemb t) Q ↔ yix x (yn a) ∧ G d 41 24 [l0, l1, l2, l3] (.int (t.A a x.toNatClampNeg) :: st) (yemb t) Q := gs_iald f_41_23 ha
theorem f_41_24 : ft 41 24 = some (41, .iload_n 1, []) := rfl
theorem s_41_24 {d : Nat} {σ : xS} {st : List Value} {Q : xR → xS → Prop} {l0 l2 l3 : Option Value} {x : Int32} : G d 41 24 [l0, some (.int x), l2, l3] st σ Q ↔ G d 41 25 [l0, some (.int x), l2, l3] (.int x :: st) σ Q := gs_go f_41_24 rfl
theorem f_41_25 : ft 41 25 = some (42, .if_icmp .le 37, [48]) := rfl
theorem s_41_25 {d : Nat} {σ : xS} {st : List Value} {Q : xR → xS → Prop} {l0 l1 l2 l3 : Option Value} {x y : Int32} : G d 41 25 [l0, l1, l2, l3] (.int y :: .int x :: st) σ Q ↔ if x ≤ y then G d 41 48 [l0, l1, l2, l3] st σ Q else G d 41 26 [l0, l1, l2, l3] st σ Q := gs_if f_41_25 rfl
theorem f_41_26 : ft 41 26 = some (45, .aload_n 0, []) := rfl
theorem s_41_26 {d : Nat} {σ : xS} {st : List Value} {Q : xR → xS → Prop} {l1 l2 l3 : Option Value} {x : Nat} : G d 41 26 [some (.ref x), l1, l2, l3] st σ Q ↔ G d 41 27 [some (.ref x), l1, l2, l3] (.ref x :: st) σ Q := gs_go f_41_26 rfl
theorem f_41_27 : ft 41 27 = some (46, .getfield 33, [4, 7, 0, 156]) := rfl
theorem s_41_27 {d : Nat} {t : yT} {st : List Value} {Q : xR → xS → Prop} {l0 l1 l2 l3 : Option Value} {a : Nat} (ho : yisO 4 a) : G d 41 27 [l0, l1, l2, l3] (.ref a :: st) (yemb t) Q ↔ G d 41 28 [l0, l1, l2, l3] (.ref (a + 8) :: st) (yemb t) Q := gs_getf (c := 4) (j := 7) (q := .c (a + 8)) f_41_27 ho rfl
theorem f_41_28 : ft 41 28 = some (49, .iload_n 3, []) := rfl
theorem s_41_28 {d : Nat} {σ : xS} {st : List Value} {Q : xR → xS → Prop} {l0 l1 l2 : Option Value} {x : Int32} : G d 41 28 [l0, l1, l2, some (.int x)] st σ Q ↔ G d 41 29 [l0, l1, l2, some (.int x)] (.int x :: st) σ Q := gs_go f_41_28 rfl
theorem f_41_29 : ft 41 29 = some (50, .aload_n 0, []) := rfl
theorem s_41_29 {d : Nat} {σ : xS} {st : List Value} {Q : xR → xS → Prop} {l1 l2 l3 : Option Value} {x : Nat} : G d 41 29 [some (.ref x), l1, l2, l3] st σ Q ↔ G d 41 30 [some (.ref x), l1, l2, l3] (.ref x :: st) σ Q := gs_go f_41_29 rfl
theorem f_41_30 : ft 41 30 = some (51, .getfield 33, [4, 7, 0, 156]) := rfl
theorem s_41_30 {d : Nat} {t : yT} {st : List Value} {Q : xR → xS → Prop} {l0 l1 l2 l3 : Option Value} {a : Nat} (ho : yisO 4 a) : G d 41 30 [l0, l1, l2, l3] (.ref a :: st) (yemb t) Q ↔ G d 41 31 [l0, l1, l2, l3] (.ref (a + 8) :: st) (yemb t) Q := gs_getf (c := 4) (j := 7) (q := .c (a + 8)) f_41_30 ho rfl
theorem f_41_31 : ft 41 31 = some (54, .iload_n 3, []) := rfl
theorem s_41_31 {d : Nat} {σ : xS} {st : List Value} {Q : xR → xS → Prop} {l0 l1 l2 : Option Value} {x : Int32} : G d 41 31 [l0, l1, l2, some (.int x)] st σ Q ↔ G d 41 32 [l0, l1, l2, some (.int x)] (.int x :: st) σ Q := gs_go f_41_31 rfl
theorem f_41_32 : ft 41 32 = some (55, .iconst 1, []) := rfl
theorem s_41_32 {d : Nat} {σ : xS} {st : List Value} {Q : xR → xS → Prop} {l0 l1 l2 l3 : Option Value} : G d 41 32 [l0, l1, l2, l3] st σ Q ↔ G d 41 33 [l0, l1, l2, l3] (.int (1) :: st) σ Q := gs_go f_41_32 rfl
theorem f_41_33 : ft 41 33 = some (56, .isub, []) := rfl
theorem s_41_33 {d : Nat} {σ : xS} {st : List Value} {Q : xR → xS → Prop} {l0 l1 l2 l3 : Option Value} {x y : Int32} : G d 41 33 [l0, l1, l2, l3] (.int y :: .int x :: st) σ Q ↔ G d 41 34 [l0, l1, l2, l3] (.int (x - y) :: st) σ Q := gs_go f_41_33 rfl
theorem f_41_34 : ft 41 34 = some (57, .iaload, []) := rfl
theorem s_41_34 {d : Nat} {t : yT} {st : List Value} {Q : xR → xS → Prop} {l0 l1 l2 l3 : Option Value} {a : Nat} {x : Int32} (ha : yA 0 a) : G d 41 34 [l0, l1, l2, l3] (.int x :: .ref a :: st) (yemb t) Q ↔ yix x (yn a) ∧ G d 41 35 [l0, l1, l2, l3] (.int (t.A a x.toNatClampNeg) :: st) (yemb t) Q := gs_iald f_41_34 ha
theorem f_41_35 : ft 41 35 = some (58, .iastore, []) := rfl
theorem s_41_35 {d : Nat} {t : yT} {st : List Value} {Q : xR → xS → Prop} {l0 l1 l2 l3 : Option Value} {a : Nat} {x v : Int32} (ha : yA 0 a) : G d 41 35 [l0, l1, l2, l3] (.int v :: .int x :: .ref a :: st) (yemb t) Q ↔ yix x (yn a) ∧ G d 41 36 [l0, l1, l2, l3] st (yemb (t.s1 a x.toNatClampNeg v)) Q := gs_iast f_41_35 ha
theorem f_41_36 : ft 41 36 = some (59, .aload_n 0, []) := rfl
theorem s_41_36 {d : Nat} {σ : xS} {st : List Value} {Q : xR → xS → Prop} {l1 l2 l3 : Option Value} {x : Nat} : G d 41 36 [some (.ref x), l1, l2, l3] st σ Q ↔ G d 41 37 [some (.ref x), l1, l2, l3] (.ref x :: st) σ Q := gs_go f_41_36 rfl
theorem f_41_37 : ft 41 37 = some (60, .getfield 36, [4, 8, 0, 158]) := rfl
theorem s_41_37 {d : Nat} {t : yT} {st : List Value} {Q : xR → xS → Prop} {l0 l1 l2 l3 : Option Value} {a : Nat} (ho : yisO 4 a) : G d 41 37 [l0, l1, l2, l3] (.ref a :: st) (yemb t) Q ↔ G d 41 38 [l0, l1, l2, l3] (.ref (a + 9) :: st) (yemb t) Q := gs_getf (c := 4) (j := 8) (q := .c (a + 9)) f_41_37 ho rfl
theorem f_41_38 : ft 41 38 = some (63, .iload_n 3, []) := rfl
theorem s_41_38 {d : Nat} {σ : xS} {st : List Value} {Q : xR → xS → Prop} {l0 l1 l2 : Option Value} {x : Int32} : G d 41 38 [l0, l1, l2, some (.int x)] st σ Q ↔ G d 41 39 [l0, l1, l2, some (.int x)] (.int x :: st) σ Q := gs_go f_41_38 rfl
theorem f_41_39 : ft 41 39 = some (64, .aload_n 0, []) := rfl
theorem s_41_39 {d : Nat} {σ : xS} {st : List Value} {Q : xR → xS → Prop} {l1 l2 l3 : Option Value} {x : Nat} : G d 41 39 [some (.ref x), l1, l2, l3] st σ Q ↔ G d 41 40 [some (.ref x), l1, l2, l3] (.ref x :: st) σ Q := gs_go f_41_39 rfl
theorem f_41_40 : ft 41 40 = some (65, .getfield 36, [4, 8, 0, 158]) := rfl
theorem s_41_40 {d : Nat} {t : yT} {st : List Value} {Q : xR → xS → Prop} {l0 l1 l2 l3 : Option Value} {a : Nat} (ho : yisO 4 a) : G d 41 40 [l0, l1, l2, l3] (.ref a :: st) (yemb t) Q ↔ G d 41 41 [l0, l1, l2, l3] (.ref (a + 9) :: st) (yemb t) Q := gs_getf (c := 4) (j := 8) (q := .c (a + 9)) f_41_40 ho rfl
theorem f_41_41 : ft 41 41 = some (68, .iload_n 3, []) := rfl
theorem s_41_41 {d : Nat} {σ : xS} {st : List Value} {Q : xR → xS → Prop} {l0 l1 l2 : Option Value} {x : Int32} : G d 41 41 [l0, l1, l2, some (.int x)] st σ Q ↔ G d 41 42 [l0, l1, l2, some (.int x)] (.int x :: st) σ Q := gs_go f_41_41 rfl
theorem f_41_42 : ft 41 42 = some (69, .iconst 1, []) := rfl
theorem s_41_42 {d : Nat} {σ : xS} {st : List Value} {Q : xR → xS → Prop} {l0 l1 l2 l3 : Option Value} : G d 41 42 [l0, l1, l2, l3] st σ Q ↔ G d 41 43 [l0, l1, l2, l3] (.int (1) :: st) σ Q := gs_go f_41_42 rfl
theorem f_41_43 : ft 41 43 = some (70, .isub, []) := rfl
theorem s_41_43 {d : Nat} {σ : xS} {st : List Value} {Q : xR → xS → Prop} {l0 l1 l2 l3 : Option Value} {x y : Int32} : G d 41 43 [l0, l1, l2, l3] (.int y :: .int x :: st) σ Q ↔ G d 41 44 [l0, l1, l2, l3] (.int (x - y) :: st) σ Q := gs_go f_41_43 rfl
theorem f_41_44 : ft 41 44 = some (71, .iaload, []) := rfl
theorem s_41_44 {d : Nat} {t : yT} {st : List Value} {Q : xR → xS → Prop} {l0 l1 l2 l3 : Option Value} {a : Nat} {x : Int32} (ha : yA 0 a) : G d 41 44 [l0, l1, l2, l3] (.int x :: .ref a :: st) (yemb t) Q ↔ yix x (yn a) ∧ G d 41 45 [l0, l1, l2, l3] (.int (t.A a x.toNatClampNeg) :: st) (yemb t) Q := gs_iald f_41_44 ha
theorem f_41_45 : ft 41 45 = some (72, .iastore, []) := rfl
theorem s_41_45 {d : Nat} {t : yT} {st : List Value} {Q : xR → xS → Prop} {l0 l1 l2 l3 : Option Value} {a : Nat} {x v : Int32} (ha : yA 0 a) : G d 41 45 [l0, l1, l2, l3] (.int v :: .int x :: .ref a :: st) (yemb t) Q ↔ yix x (yn a) ∧ G d 41 46 [l0, l1, l2, l3] st (yemb (t.s1 a x.toNatClampNeg v)) Q := gs_iast f_41_45 ha
theorem f_41_46 : ft 41 46 = some (73, .iinc 3 (-1), []) := rfl
theorem s_41_46 {d : Nat} {σ : xS} {st : List Value} {Q : xR → xS → Prop} {l0 l1 l2 : Option Value} {x : Int32} : G d 41 46 [l0, l1, l2, some (.int x)] st σ Q ↔ G d 41 47 [l0, l1, ykl l2, some (.int (x + (-1)))] st σ Q := by
  cases l2 with
  | none => exact gs_go f_41_46 rfl
  | some v => cases v <;> exact gs_go f_41_46 rfl
theorem f_41_47 : ft 41 47 = some (76, .goto (-48), [15]) := rfl
theorem s_41_47 {d : Nat} {σ : xS} {st : List Value} {Q : xR → xS → Prop} {l0 l1 l2 l3 : Option Value} : G d 41 47 [l0, l1, l2, l3] st σ Q ↔ G d 41 15 [l0, l1, l2, l3] st σ Q := gs_go f_41_47 rfl
theorem f_41_48 : ft 41 48 = some (79, .aload_n 0, []) := rfl
theorem s_41_48 {d : Nat} {σ : xS} {st : List Value} {Q : xR → xS → Prop} {l1 l2 l3 : Option Value} {x : Nat} : G d 41 48 [some (.ref x), l1, l2, l3] st σ Q ↔ G d 41 49 [some (.ref x), l1, l2, l3] (.ref x :: st) σ Q := gs_go f_41_48 rfl
theorem f_41_49 : ft 41 49 = some (80, .getfield 33, [4, 7, 0, 156]) := rfl
theorem s_41_49 {d : Nat} {t : yT} {st : List Value} {Q : xR → xS → Prop} {l0 l1 l2 l3 : Option Value} {a : Nat} (ho : yisO 4 a) : G d 41 49 [l0, l1, l2, l3] (.ref a :: st) (yemb t) Q ↔ G d 41 50 [l0, l1, l2, l3] (.ref (a + 8) :: st) (yemb t) Q := gs_getf (c := 4) (j := 7) (q := .c (a + 8)) f_41_49 ho rfl
theorem f_41_50 : ft 41 50 = some (83, .iload_n 3, []) := rfl
theorem s_41_50 {d : Nat} {σ : xS} {st : List Value} {Q : xR → xS → Prop} {l0 l1 l2 : Option Value} {x : Int32} : G d 41 50 [l0, l1, l2, some (.int x)] st σ Q ↔ G d 41 51 [l0, l1, l2, some (.int x)] (.int x :: st) σ Q := gs_go f_41_50 rfl
theorem f_41_51 : ft 41 51 = some (84, .iload_n 1, []) := rfl
theorem s_41_51 {d : Nat} {σ : xS} {st : List Value} {Q : xR → xS → Prop} {l0 l2 l3 : Option Value} {x : Int32} : G d 41 51 [l0, some (.int x), l2, l3] st σ Q ↔ G d 41 52 [l0, some (.int x), l2, l3] (.int x :: st) σ Q := gs_go f_41_51 rfl
theorem f_41_52 : ft 41 52 = some (85, .iastore, []) := rfl
theorem s_41_52 {d : Nat} {t : yT} {st : List Value} {Q : xR → xS → Prop} {l0 l1 l2 l3 : Option Value} {a : Nat} {x v : Int32} (ha : yA 0 a) : G d 41 52 [l0, l1, l2, l3] (.int v :: .int x :: .ref a :: st) (yemb t) Q ↔ yix x (yn a) ∧ G d 41 53 [l0, l1, l2, l3] st (yemb (t.s1 a x.toNatClampNeg v)) Q := gs_iast f_41_52 ha
theorem f_41_53 : ft 41 53 = some (86, .aload_n 0, []) := rfl
theorem s_41_53 {d : Nat} {σ : xS} {st : List Value} {Q : xR → xS → Prop} {l1 l2 l3 : Option Value} {x : Nat} : G d 41 53 [some (.ref x), l1, l2, l3] st σ Q ↔ G d 41 54 [some (.ref x), l1, l2, l3] (.ref x :: st) σ Q := gs_go f_41_53 rfl
theorem f_41_54 : ft 41 54 = some (87, .getfield 36, [4, 8, 0, 158]) := rfl
theorem s_41_54 {d : Nat} {t : yT} {st : List Value} {Q : xR → xS → Prop} {l0 l1 l2 l3 : Option Value} {a : Nat} (ho : yisO 4 a) : G d 41 54 [l0, l1, l2, l3] (.ref a :: st) (yemb t) Q ↔ G d 41 55 [l0, l1, l2, l3] (.ref (a + 9) :: st) (yemb t) Q := gs_getf (c := 4) (j := 8) (q := .c (a + 9)) f_41_54 ho rfl
theorem f_41_55 : ft 41 55 = some (90, .iload_n 3, []) := rfl
theorem s_41_55 {d : Nat} {σ : xS} {st : List Value} {Q : xR → xS → Prop} {l0 l1 l2 : Option Value} {x : Int32} : G d 41 55 [l0, l1, l2, some (.int x)] st σ Q ↔ G d 41 56 [l0, l1, l2, some (.int x)] (.int x :: st) σ Q := gs_go f_41_55 rfl
theorem f_41_56 : ft 41 56 = some (91, .iload_n 2, []) := rfl
theorem s_41_56 {d : Nat} {σ : xS} {st : List Value} {Q : xR → xS → Prop} {l0 l1 l3 : Option Value} {x : Int32} : G d 41 56 [l0, l1, some (.int x), l3] st σ Q ↔ G d 41 57 [l0, l1, some (.int x), l3] (.int x :: st) σ Q := gs_go f_41_56 rfl
theorem f_41_57 : ft 41 57 = some (92, .iastore, []) := rfl
theorem s_41_57 {d : Nat} {t : yT} {st : List Value} {Q : xR → xS → Prop} {l0 l1 l2 l3 : Option Value} {a : Nat} {x v : Int32} (ha : yA 0 a) : G d 41 57 [l0, l1, l2, l3] (.int v :: .int x :: .ref a :: st) (yemb t) Q ↔ yix x (yn a) ∧ G d 41 58 [l0, l1, l2, l3] st (yemb (t.s1 a x.toNatClampNeg v)) Q := gs_iast f_41_57 ha
theorem f_41_58 : ft 41 58 = some (93, .aload_n 0, []) := rfl
theorem s_41_58 {d : Nat} {σ : xS} {st : List Value} {Q : xR → xS → Prop} {l1 l2 l3 : Option Value} {x : Nat} : G d 41 58 [some (.ref x), l1, l2, l3] st σ Q ↔ G d 41 59 [some (.ref x), l1, l2, l3] (.ref x :: st) σ Q := gs_go f_41_58 rfl
theorem f_41_59 : ft 41 59 = some (94, .dup, []) := rfl
theorem s_41_59 {d : Nat} {σ : xS} {st : List Value} {Q : xR → xS → Prop} {l0 l1 l2 l3 : Option Value} {x : Nat} : G d 41 59 [l0, l1, l2, l3] (.ref x :: st) σ Q ↔ G d 41 60 [l0, l1, l2, l3] (.ref x :: .ref x :: st) σ Q := gs_go f_41_59 rfl
theorem s_41_59i {d : Nat} {σ : xS} {st : List Value} {Q : xR → xS → Prop} {l0 l1 l2 l3 : Option Value} {x : Int32} : G d 41 59 [l0, l1, l2, l3] (.int x :: st) σ Q ↔ G d 41 60 [l0, l1, l2, l3] (.int x :: .int x :: st) σ Q := gs_go f_41_59 rfl
theorem f_41_60 : ft 41 60 = some (95, .getfield 69, [4, 12, 0, 169]) := rfl
theorem s_41_60 {d : Nat} {t : yT} {st : List Value} {Q : xR → xS → Prop} {l0 l1 l2 l3 : Option Value} {a : Nat} (ho : yisO 4 a) : G d 41 60 [l0, l1, l2, l3] (.ref a :: st) (yemb t) Q ↔ G d 41 61 [l0, l1, l2, l3] (.int (t.A a 12) :: st) (yemb t) Q := gs_getf (c := 4) (j := 12) (q := .i) f_41_60 ho rfl
theorem f_41_61 : ft 41 61 = some (98, .iconst 1, []) := rfl
theorem s_41_61 {d : Nat} {σ : xS} {st : List Value} {Q : xR → xS → Prop} {l0 l1 l2 l3 : Option Value} : G d 41 61 [l0, l1, l2, l3] st σ Q ↔ G d 41 62 [l0, l1, l2, l3] (.int (1) :: st) σ Q := gs_go f_41_61 rfl
theorem f_41_62 : ft 41 62 = some (99, .iadd, []) := rfl
theorem s_41_62 {d : Nat} {σ : xS} {st : List Value} {Q : xR → xS → Prop} {l0 l1 l2 l3 : Option Value} {x y : Int32} : G d 41 62 [l0, l1, l2, l3] (.int y :: .int x :: st) σ Q ↔ G d 41 63 [l0, l1, l2, l3] (.int (x + y) :: st) σ Q := gs_go f_41_62 rfl
theorem f_41_63 : ft 41 63 = some (100, .putfield 69, [4, 12, 0, 169]) := rfl
theorem s_41_63 {d : Nat} {t : yT} {st : List Value} {Q : xR → xS → Prop} {l0 l1 l2 l3 : Option Value} {a : Nat} {x : Int32} (ho : yisO 4 a) : G d 41 63 [l0, l1, l2, l3] (.int x :: .ref a :: st) (yemb t) Q ↔ G d 41 64 [l0, l1, l2, l3] st (yemb (t.s1 a 12 x)) Q := gs_putI (c := 4) (j := 12) f_41_63 (fun _ => rfl) rfl rfl ho
theorem f_41_64 : ft 41 64 = some (103, .return_, []) := rfl
theorem s_41_64 {d : Nat} {σ : xS} {ls : xL} {Q : xR → xS → Prop} : G d 41 64 ls [] σ Q ↔ Q (.inl none) σ := gs_ret f_41_64 rfl
theorem f_42_0 : ft 42 0 = some (0, .iconst 0, []) := rfl
theorem s_42_0 {d : Nat} {σ : xS} {st : List Value} {Q : xR → xS → Prop} {l0 l1 l2 l3 : Option Value} : G d 42 0 [l0, l1, l2, l3] st σ Q ↔ G d 42 1 [l0, l1, l2, l3] (.int (0) :: st) σ Q := gs_go f_42_0 rfl
theorem f_42_1 : ft 42 1 = some (1, .istore_n 2, []) := rfl
theorem s_42_1 {d : Nat} {σ : xS} {st : List Value} {Q : xR → xS → Prop} {l0 l1 l2 l3 : Option Value} {x : Int32} : G d 42 1 [l0, l1, l2, l3] (.int x :: st) σ Q ↔ G d 42 2 [l0, ykl l1, some (.int x), l3] st σ Q := by
  cases l1 with
  | none => exact gs_go f_42_1 rfl
  | some v => cases v <;> exact gs_go f_42_1 rfl
theorem f_42_2 : ft 42 2 = some (2, .iconst 1, []) := rfl
theorem s_42_2 {d : Nat} {σ : xS} {st : List Value} {Q : xR → xS → Prop} {l0 l1 l2 l3 : Option Value} : G d 42 2 [l0, l1, l2, l3] st σ Q ↔ G d 42 3 [l0, l1, l2, l3] (.int (1) :: st) σ Q := gs_go f_42_2 rfl
theorem f_42_3 : ft 42 3 = some (3, .istore_n 3, []) := rfl
theorem s_42_3 {d : Nat} {σ : xS} {st : List Value} {Q : xR → xS → Prop} {l0 l1 l2 l3 : Option Value} {x : Int32} : G d 42 3 [l0, l1, l2, l3] (.int x :: st) σ Q ↔ G d 42 4 [l0, l1, ykl l2, some (.int x)] st σ Q := by
  cases l2 with
  | none => exact gs_go f_42_3 rfl
  | some v => cases v <;> exact gs_go f_42_3 rfl
theorem f_42_4 : ft 42 4 = some (4, .iload_n 3, []) := rfl
theorem s_42_4 {d : Nat} {σ : xS} {st : List Value} {Q : xR → xS → Prop} {l0 l1 l2 : Option Value} {x : Int32} : G d 42 4 [l0, l1, l2, some (.int x)] st σ Q ↔ G d 42 5 [l0, l1, l2, some (.int x)] (.int x :: st) σ Q := gs_go f_42_4 rfl
theorem f_42_5 : ft 42 5 = some (5, .aload_n 0, []) := rfl
theorem s_42_5 {d : Nat} {σ : xS} {st : List Value} {Q : xR → xS → Prop} {l1 l2 l3 : Option Value} {x : Nat} : G d 42 5 [some (.ref x), l1, l2, l3] st σ Q ↔ G d 42 6 [some (.ref x), l1, l2, l3] (.ref x :: st) σ Q := gs_go f_42_5 rfl
theorem f_42_6 : ft 42 6 = some (6, .getfield 69, [4, 12, 0, 169]) := rfl
theorem s_42_6 {d : Nat} {t : yT} {st : List Value} {Q : xR → xS → Prop} {l0 l1 l2 l3 : Option Value} {a : Nat} (ho : yisO 4 a) : G d 42 6 [l0, l1, l2, l3] (.ref a :: st) (yemb t) Q ↔ G d 42 7 [l0, l1, l2, l3] (.int (t.A a 12) :: st) (yemb t) Q := gs_getf (c := 4) (j := 12) (q := .i) f_42_6 ho rfl
theorem f_42_7 : ft 42 7 = some (9, .if_icmp .ge 21, [18]) := rfl
theorem s_42_7 {d : Nat} {σ : xS} {st : List Value} {Q : xR → xS → Prop} {l0 l1 l2 l3 : Option Value} {x y : Int32} : G d 42 7 [l0, l1, l2, l3] (.int y :: .int x :: st) σ Q ↔ if y ≤ x then G d 42 18 [l0, l1, l2, l3] st σ Q else G d 42 8 [l0, l1, l2, l3] st σ Q := gs_if f_42_7 rfl
theorem f_42_8 : ft 42 8 = some (12, .aload_n 0, []) := rfl
theorem s_42_8 {d : Nat} {σ : xS} {st : List Value} {Q : xR → xS → Prop} {l1 l2 l3 : Option Value} {x : Nat} : G d 42 8 [some (.ref x), l1, l2, l3] st σ Q ↔ G d 42 9 [some (.ref x), l1, l2, l3] (.ref x :: st) σ Q := gs_go f_42_8 rfl
theorem f_42_9 : ft 42 9 = some (13, .getfield 33, [4, 7, 0, 156]) := rfl
theorem s_42_9 {d : Nat} {t : yT} {st : List Value} {Q : xR → xS → Prop} {l0 l1 l2 l3 : Option Value} {a : Nat} (ho : yisO 4 a) : G d 42 9 [l0, l1, l2, l3] (.ref a :: st) (yemb t) Q ↔ G d 42 10 [l0, l1, l2, l3] (.ref (a + 8) :: st) (yemb t) Q := gs_getf (c := 4) (j := 7) (q := .c (a + 8)) f_42_9 ho rfl
theorem f_42_10 : ft 42 10 = some (16, .iload_n 3, []) := rfl
theorem s_42_10 {d : Nat} {σ : xS} {st : List Value} {Q : xR → xS → Prop} {l0 l1 l2 : Option Value} {x : Int32} : G d 42 10 [l0, l1, l2, some (.int x)] st σ Q ↔ G d 42 11 [l0, l1, l2, some (.int x)] (.int x :: st) σ Q := gs_go f_42_10 rfl
theorem f_42_11 : ft 42 11 = some (17, .iaload, []) := rfl
theorem s_42_11 {d : Nat} {t : yT} {st : List Value} {Q : xR → xS → Prop} {l0 l1 l2 l3 : Option Value} {a : Nat} {x : Int32} (ha : yA 0 a) : G d 42 11 [l0, l1, l2, l3] (.int x :: .ref a :: st) (yemb t) Q ↔ yix x (yn a) ∧ G d 42 12 [l0, l1, l2, l3] (.int (t.A a x.toNatClampNeg) :: st) (yemb t) Q := gs_iald f_42_11 ha
theorem f_42_12 : ft 42 12 = some (18, .iload_n 1, []) := rfl
theorem s_42_12 {d : Nat} {σ : xS} {st : List Value} {Q : xR → xS → Prop} {l0 l2 l3 : Option Value} {x : Int32} : G d 42 12 [l0, some (.int x), l2, l3] st σ Q ↔ G d 42 13 [l0, some (.int x), l2, l3] (.int x :: st) σ Q := gs_go f_42_12 rfl
theorem f_42_13 : ft 42 13 = some (19, .if_icmp .gt 5, [16]) := rfl
theorem s_42_13 {d : Nat} {σ : xS} {st : List Value} {Q : xR → xS → Prop} {l0 l1 l2 l3 : Option Value} {x y : Int32} : G d 42 13 [l0, l1, l2, l3] (.int y :: .int x :: st) σ Q ↔ if y < x then G d 42 16 [l0, l1, l2, l3] st σ Q else G d 42 14 [l0, l1, l2, l3] st σ Q := gs_if f_42_13 rfl
theorem f_42_14 : ft 42 14 = some (22, .iload_n 3, []) := rfl
theorem s_42_14 {d : Nat} {σ : xS} {st : List Value} {Q : xR → xS → Prop} {l0 l1 l2 : Option Value} {x : Int32} : G d 42 14 [l0, l1, l2, some (.int x)] st σ Q ↔ G d 42 15 [l0, l1, l2, some (.int x)] (.int x :: st) σ Q := gs_go f_42_14 rfl
theorem f_42_15 : ft 42 15 = some (23, .istore_n 2, []) := rfl
theorem s_42_15 {d : Nat} {σ : xS} {st : List Value} {Q : xR → xS → Prop} {l0 l1 l2 l3 : Option Value} {x : Int32} : G d 42 15 [l0, l1, l2, l3] (.int x :: st) σ Q ↔ G d 42 16 [l0, ykl l1, some (.int x), l3] st σ Q := by
  cases l1 with
  | none => exact gs_go f_42_15 rfl
  | some v => cases v <;> exact gs_go f_42_15 rfl
theorem f_42_16 : ft 42 16 = some (24, .iinc 3 1, []) := rfl
theorem s_42_16 {d : Nat} {σ : xS} {st : List Value} {Q : xR → xS → Prop} {l0 l1 l2 : Option Value} {x : Int32} : G d 42 16 [l0, l1, l2, some (.int x)] st σ Q ↔ G d 42 17 [l0, l1, ykl l2, some (.int (x + 1))] st σ Q := by
  cases l2 with
  | none => exact gs_go f_42_16 rfl
  | some v => cases v <;> exact gs_go f_42_16 rfl
theorem f_42_17 : ft 42 17 = some (27, .goto (-23), [4]) := rfl
theorem s_42_17 {d : Nat} {σ : xS} {st : List Value} {Q : xR → xS → Prop} {l0 l1 l2 l3 : Option Value} : G d 42 17 [l0, l1, l2, l3] st σ Q ↔ G d 42 4 [l0, l1, l2, l3] st σ Q := gs_go f_42_17 rfl
theorem f_42_18 : ft 42 18 = some (30, .iload_n 2, []) := rfl
theorem s_42_18 {d : Nat} {σ : xS} {st : List Value} {Q : xR → xS → Prop} {l0 l1 l3 : Option Value} {x : Int32} : G d 42 18 [l0, l1, some (.int x), l3] st σ Q ↔ G d 42 19 [l0, l1, some (.int x), l3] (.int x :: st) σ Q := gs_go f_42_18 rfl
theorem f_42_19 : ft 42 19 = some (31, .ireturn, []) := rfl
theorem s_42_19 {d : Nat} {σ : xS} {ls : xL} {Q : xR → xS → Prop} {x : Int32} : G d 42 19 ls [.int x] σ Q ↔ Q (.inl (some (.int x))) σ := gs_reti f_42_19 rfl
theorem f_43_0 : ft 43 0 = some (0, .iload_n 1, []) := rfl
theorem s_43_0 {d : Nat} {σ : xS} {st : List Value} {Q : xR → xS → Prop} {l0 : Option Value} {x : Int32} : G d 43 0 [l0, some (.int x)] st σ Q ↔ G d 43 1 [l0, some (.int x)] (.int x :: st) σ Q := gs_go f_43_0 rfl
theorem f_43_1 : ft 43 1 = some (1, .iconst 1, []) := rfl
theorem s_43_1 {d : Nat} {σ : xS} {st : List Value} {Q : xR → xS → Prop} {l0 l1 : Option Value} : G d 43 1 [l0, l1] st σ Q ↔ G d 43 2 [l0, l1] (.int (1) :: st) σ Q := gs_go f_43_1 rfl
theorem f_43_2 : ft 43 2 = some (2, .iadd, []) := rfl
theorem s_43_2 {d : Nat} {σ : xS} {st : List Value} {Q : xR → xS → Prop} {l0 l1 : Option Value} {x y : Int32} : G d 43 2 [l0, l1] (.int y :: .int x :: st) σ Q ↔ G d 43 3 [l0, l1] (.int (x + y) :: st) σ Q := gs_go f_43_2 rfl
theorem f_43_3 : ft 43 3 = some (3, .aload_n 0, []) := rfl
theorem s_43_3 {d : Nat} {σ : xS} {st : List Value} {Q : xR → xS → Prop} {l1 : Option Value} {x : Nat} : G d 43 3 [some (.ref x), l1] st σ Q ↔ G d 43 4 [some (.ref x), l1] (.ref x :: st) σ Q := gs_go f_43_3 rfl
theorem f_43_4 : ft 43 4 = some (4, .getfield 69, [4, 12, 0, 169]) := rfl
theorem s_43_4 {d : Nat} {t : yT} {st : List Value} {Q : xR → xS → Prop} {l0 l1 : Option Value} {a : Nat} (ho : yisO 4 a) : G d 43 4 [l0, l1] (.ref a :: st) (yemb t) Q ↔ G d 43 5 [l0, l1] (.int (t.A a 12) :: st) (yemb t) Q := gs_getf (c := 4) (j := 12) (q := .i) f_43_4 ho rfl
theorem f_43_5 : ft 43 5 = some (7, .if_icmp .ge 16, [15]) := rfl
theorem s_43_5 {d : Nat} {σ : xS} {st : List Value} {Q : xR → xS → Prop} {l0 l1 : Option Value} {x y : Int32} : G d 43 5 [l0, l1] (.int y :: .int x :: st) σ Q ↔ if y ≤ x then G d 43 15 [l0, l1] st σ Q else G d 43 6 [l0, l1] st σ Q := gs_if f_43_5 rfl
theorem f_43_6 : ft 43 6 = some (10, .aload_n 0, []) := rfl
theorem s_43_6 {d : Nat} {σ : xS} {st : List Value} {Q : xR → xS → Prop} {l1 : Option Value} {x : Nat} : G d 43 6 [some (.ref x), l1] st σ Q ↔ G d 43 7 [some (.ref x), l1] (.ref x :: st) σ Q := gs_go f_43_6 rfl
theorem f_43_7 : ft 43 7 = some (11, .getfield 33, [4, 7, 0, 156]) := rfl
theorem s_43_7 {d : Nat} {t : yT} {st : List Value} {Q : xR → xS → Prop} {l0 l1 : Option Value} {a : Nat} (ho : yisO 4 a) : G d 43 7 [l0, l1] (.ref a :: st) (yemb t) Q ↔ G d 43 8 [l0, l1] (.ref (a + 8) :: st) (yemb t) Q := gs_getf (c := 4) (j := 7) (q := .c (a + 8)) f_43_7 ho rfl
theorem f_43_8 : ft 43 8 = some (14, .iload_n 1, []) := rfl
theorem s_43_8 {d : Nat} {σ : xS} {st : List Value} {Q : xR → xS → Prop} {l0 : Option Value} {x : Int32} : G d 43 8 [l0, some (.int x)] st σ Q ↔ G d 43 9 [l0, some (.int x)] (.int x :: st) σ Q := gs_go f_43_8 rfl
theorem f_43_9 : ft 43 9 = some (15, .iconst 1, []) := rfl
theorem s_43_9 {d : Nat} {σ : xS} {st : List Value} {Q : xR → xS → Prop} {l0 l1 : Option Value} : G d 43 9 [l0, l1] st σ Q ↔ G d 43 10 [l0, l1] (.int (1) :: st) σ Q := gs_go f_43_9 rfl
theorem f_43_10 : ft 43 10 = some (16, .iadd, []) := rfl
theorem s_43_10 {d : Nat} {σ : xS} {st : List Value} {Q : xR → xS → Prop} {l0 l1 : Option Value} {x y : Int32} : G d 43 10 [l0, l1] (.int y :: .int x :: st) σ Q ↔ G d 43 11 [l0, l1] (.int (x + y) :: st) σ Q := gs_go f_43_10 rfl
theorem f_43_11 : ft 43 11 = some (17, .iaload, []) := rfl
theorem s_43_11 {d : Nat} {t : yT} {st : List Value} {Q : xR → xS → Prop} {l0 l1 : Option Value} {a : Nat} {x : Int32} (ha : yA 0 a) : G d 43 11 [l0, l1] (.int x :: .ref a :: st) (yemb t) Q ↔ yix x (yn a) ∧ G d 43 12 [l0, l1] (.int (t.A a x.toNatClampNeg) :: st) (yemb t) Q := gs_iald f_43_11 ha
theorem f_43_12 : ft 43 12 = some (18, .iconst 1, []) := rfl
theorem s_43_12 {d : Nat} {σ : xS} {st : List Value} {Q : xR → xS → Prop} {l0 l1 : Option Value} : G d 43 12 [l0, l1] st σ Q ↔ G d 43 13 [l0, l1] (.int (1) :: st) σ Q := gs_go f_43_12 rfl
theorem f_43_13 : ft 43 13 = some (19, .isub, []) := rfl
theorem s_43_13 {d : Nat} {σ : xS} {st : List Value} {Q : xR → xS → Prop} {l0 l1 : Option Value} {x y : Int32} : G d 43 13 [l0, l1] (.int y :: .int x :: st) σ Q ↔ G d 43 14 [l0, l1] (.int (x - y) :: st) σ Q := gs_go f_43_13 rfl
theorem f_43_14 : ft 43 14 = some (20, .goto 9, [19]) := rfl
theorem s_43_14 {d : Nat} {σ : xS} {st : List Value} {Q : xR → xS → Prop} {l0 l1 : Option Value} : G d 43 14 [l0, l1] st σ Q ↔ G d 43 19 [l0, l1] st σ Q := gs_go f_43_14 rfl
theorem f_43_15 : ft 43 15 = some (23, .aload_n 0, []) := rfl
theorem s_43_15 {d : Nat} {σ : xS} {st : List Value} {Q : xR → xS → Prop} {l1 : Option Value} {x : Nat} : G d 43 15 [some (.ref x), l1] st σ Q ↔ G d 43 16 [some (.ref x), l1] (.ref x :: st) σ Q := gs_go f_43_15 rfl
theorem f_43_16 : ft 43 16 = some (24, .getfield 46, [4, 9, 0, 160]) := rfl
theorem s_43_16 {d : Nat} {t : yT} {st : List Value} {Q : xR → xS → Prop} {l0 l1 : Option Value} {a : Nat} (ho : yisO 4 a) : G d 43 16 [l0, l1] (.ref a :: st) (yemb t) Q ↔ G d 43 17 [l0, l1] (.int (t.A a 9) :: st) (yemb t) Q := gs_getf (c := 4) (j := 9) (q := .i) f_43_16 ho rfl
theorem f_43_17 : ft 43 17 = some (27, .iconst 1, []) := rfl
theorem s_43_17 {d : Nat} {σ : xS} {st : List Value} {Q : xR → xS → Prop} {l0 l1 : Option Value} : G d 43 17 [l0, l1] st σ Q ↔ G d 43 18 [l0, l1] (.int (1) :: st) σ Q := gs_go f_43_17 rfl
theorem f_43_18 : ft 43 18 = some (28, .isub, []) := rfl
theorem s_43_18 {d : Nat} {σ : xS} {st : List Value} {Q : xR → xS → Prop} {l0 l1 : Option Value} {x y : Int32} : G d 43 18 [l0, l1] (.int y :: .int x :: st) σ Q ↔ G d 43 19 [l0, l1] (.int (x - y) :: st) σ Q := gs_go f_43_18 rfl
theorem f_43_19 : ft 43 19 = some (29, .ireturn, []) := rfl
theorem s_43_19 {d : Nat} {σ : xS} {ls : xL} {Q : xR → xS → Prop} {x : Int32} : G d 43 19 ls [.int x] σ Q ↔ Q (.inl (some (.int x))) σ := gs_reti f_43_19 rfl
theorem f_44_0 : ft 44 0 = some (0, .iconst 0, []) := rfl
theorem s_44_0 {d : Nat} {σ : xS} {st : List Value} {Q : xR → xS → Prop} {l0 l1 l2 l3 : Option Value} : G d 44 0 [l0, l1, l2, l3] st σ Q ↔ G d 44 1 [l0, l1, l2, l3] (.int (0) :: st) σ Q := gs_go f_44_0 rfl
theorem f_44_1 : ft 44 1 = some (1, .istore_n 2, []) := rfl
theorem s_44_1 {d : Nat} {σ : xS} {st : List Value} {Q : xR → xS → Prop} {l0 l1 l2 l3 : Option Value} {x : Int32} : G d 44 1 [l0, l1, l2, l3] (.int x :: st) σ Q ↔ G d 44 2 [l0, ykl l1, some (.int x), l3] st σ Q := by
  cases l1 with
  | none => exact gs_go f_44_1 rfl
  | some v => cases v <;> exact gs_go f_44_1 rfl
theorem f_44_2 : ft 44 2 = some (2, .aload_n 0, []) := rfl
theorem s_44_2 {d : Nat} {σ : xS} {st : List Value} {Q : xR → xS → Prop} {l1 l2 l3 : Option Value} {x : Nat} : G d 44 2 [some (.ref x), l1, l2, l3] st σ Q ↔ G d 44 3 [some (.ref x), l1, l2, l3] (.ref x :: st) σ Q := gs_go f_44_2 rfl
theorem f_44_3 : ft 44 3 = some (3, .getfield 33, [4, 7, 0, 156]) := rfl
theorem s_44_3 {d : Nat} {t : yT} {st : List Value} {Q : xR → xS → Prop} {l0 l1 l2 l3 : Option Value} {a : Nat} (ho : yisO 4 a) : G d 44 3 [l0, l1, l2, l3] (.ref a :: st) (yemb t) Q ↔ G d 44 4 [l0, l1, l2, l3] (.ref (a + 8) :: st) (yemb t) Q := gs_getf (c := 4) (j := 7) (q := .c (a + 8)) f_44_3 ho rfl
theorem f_44_4 : ft 44 4 = some (6, .iload_n 1, []) := rfl
theorem s_44_4 {d : Nat} {σ : xS} {st : List Value} {Q : xR → xS → Prop} {l0 l2 l3 : Option Value} {x : Int32} : G d 44 4 [l0, some (.int x), l2, l3] st σ Q ↔ G d 44 5 [l0, some (.int x), l2, l3] (.int x :: st) σ Q := gs_go f_44_4 rfl
theorem f_44_5 : ft 44 5 = some (7, .iaload, []) := rfl
theorem s_44_5 {d : Nat} {t : yT} {st : List Value} {Q : xR → xS → Prop} {l0 l1 l2 l3 : Option Value} {a : Nat} {x : Int32} (ha : yA 0 a) : G d 44 5 [l0, l1, l2, l3] (.int x :: .ref a :: st) (yemb t) Q ↔ yix x (yn a) ∧ G d 44 6 [l0, l1, l2, l3] (.int (t.A a x.toNatClampNeg) :: st) (yemb t) Q := gs_iald f_44_5 ha
theorem f_44_6 : ft 44 6 = some (8, .istore_n 3, []) := rfl
theorem s_44_6 {d : Nat} {σ : xS} {st : List Value} {Q : xR → xS → Prop} {l0 l1 l2 l3 : Option Value} {x : Int32} : G d 44 6 [l0, l1, l2, l3] (.int x :: st) σ Q ↔ G d 44 7 [l0, l1, ykl l2, some (.int x)] st σ Q := by
  cases l2 with
  | none => exact gs_go f_44_6 rfl
  | some v => cases v <;> exact gs_go f_44_6 rfl
theorem f_44_7 : ft 44 7 = some (9, .iload_n 3, []) := rfl
theorem s_44_7 {d : Nat} {σ : xS} {st : List Value} {Q : xR → xS → Prop} {l0 l1 l2 : Option Value} {x : Int32} : G d 44 7 [l0, l1, l2, some (.int x)] st σ Q ↔ G d 44 8 [l0, l1, l2, some (.int x)] (.int x :: st) σ Q := gs_go f_44_7 rfl
theorem f_44_8 : ft 44 8 = some (10, .aload_n 0, []) := rfl
theorem s_44_8 {d : Nat} {σ : xS} {st : List Value} {Q : xR → xS → Prop} {l1 l2 l3 : Option Value} {x : Nat} : G d 44 8 [some (.ref x), l1, l2, l3] st σ Q ↔ G d 44 9 [some (.ref x), l1, l2, l3] (.ref x :: st) σ Q := gs_go f_44_8 rfl
theorem f_44_9 : ft 44 9 = some (11, .iload_n 1, []) := rfl
theorem s_44_9 {d : Nat} {σ : xS} {st : List Value} {Q : xR → xS → Prop} {l0 l2 l3 : Option Value} {x : Int32} : G d 44 9 [l0, some (.int x), l2, l3] st σ Q ↔ G d 44 10 [l0, some (.int x), l2, l3] (.int x :: st) σ Q := gs_go f_44_9 rfl
theorem f_44_10 : ft 44 10 = some (12, .invokevirtual 97, [43, 2, 0, 1033]) := rfl
theorem s_44_10 {d : Nat} {t : yT} {st : List Value} {Q : xR → xS → Prop} {l0 l1 l2 l3 : Option Value} {a0 : Nat} {a1 : Int32} (ho : yisO 4 a0) : G (d + 1) 44 10 [l0, l1, l2, l3] (.int a1 :: .ref a0 :: st) (yemb t) Q ↔ xcat st ≤ 8 ∧ Cl d 43 [.ref a0, .int a1] (yemb t) (Gk (d + 1) 44 10 [l0, l1, l2, l3] st Q) := gs_call f_44_10 ((xinv_call (i := 10) (n := 1033) (ls := [l0, l1, l2, l3]) (kind := 0) (σ := yemb t) (by decide)).trans (xcall_vi [.int a1, .ref a0] rfl rfl (show (2 : Nat) ≤ 2 by decide) rfl ho))
theorem f_44_11 : ft 44 11 = some (15, .if_icmp .gt 30, [27]) := rfl
theorem s_44_11 {d : Nat} {σ : xS} {st : List Value} {Q : xR → xS → Prop} {l0 l1 l2 l3 : Option Value} {x y : Int32} : G d 44 11 [l0, l1, l2, l3] (.int y :: .int x :: st) σ Q ↔ if y < x then G d 44 27 [l0, l1, l2, l3] st σ Q else G d 44 12 [l0, l1, l2, l3] st σ Q := gs_if f_44_11 rfl
theorem f_44_12 : ft 44 12 = some (18, .aload_n 0, []) := rfl
theorem s_44_12 {d : Nat} {σ : xS} {st : List Value} {Q : xR → xS → Prop} {l1 l2 l3 : Option Value} {x : Nat} : G d 44 12 [some (.ref x), l1, l2, l3] st σ Q ↔ G d 44 13 [some (.ref x), l1, l2, l3] (.ref x :: st) σ Q := gs_go f_44_12 rfl
theorem f_44_13 : ft 44 13 = some (19, .iload_n 3, []) := rfl
theorem s_44_13 {d : Nat} {σ : xS} {st : List Value} {Q : xR → xS → Prop} {l0 l1 l2 : Option Value} {x : Int32} : G d 44 13 [l0, l1, l2, some (.int x)] st σ Q ↔ G d 44 14 [l0, l1, l2, some (.int x)] (.int x :: st) σ Q := gs_go f_44_13 rfl
theorem f_44_14 : ft 44 14 = some (20, .invokevirtual 101, [46, 2, 0, 1037]) := rfl
theorem s_44_14 {d : Nat} {t : yT} {st : List Value} {Q : xR → xS → Prop} {l0 l1 l2 l3 : Option Value} {a0 : Nat} {a1 : Int32} (ho : yisO 4 a0) : G (d + 1) 44 14 [l0, l1, l2, l3] (.int a1 :: .ref a0 :: st) (yemb t) Q ↔ xcat st ≤ 8 ∧ Cl d 46 [.ref a0, .int a1] (yemb t) (Gk (d + 1) 44 14 [l0, l1, l2, l3] st Q) := gs_call f_44_14 ((xinv_call (i := 14) (n := 1037) (ls := [l0, l1, l2, l3]) (kind := 0) (σ := yemb t) (by decide)).trans (xcall_vi [.int a1, .ref a0] rfl rfl (show (2 : Nat) ≤ 2 by decide) rfl ho))
theorem f_44_15 : ft 44 15 = some (23, .ifCond .eq 16, [25]) := rfl
theorem s_44_15 {d : Nat} {σ : xS} {st : List Value} {Q : xR → xS → Prop} {l0 l1 l2 l3 : Option Value} {x : Int32} : G d 44 15 [l0, l1, l2, l3] (.int x :: st) σ Q ↔ if x = 0 then G d 44 25 [l0, l1, l2, l3] st σ Q else G d 44 16 [l0, l1, l2, l3] st σ Q := gs_if f_44_15 rfl
theorem f_44_16 : ft 44 16 = some (26, .iload_n 2, []) := rfl
theorem s_44_16 {d : Nat} {σ : xS} {st : List Value} {Q : xR → xS → Prop} {l0 l1 l3 : Option Value} {x : Int32} : G d 44 16 [l0, l1, some (.int x), l3] st σ Q ↔ G d 44 17 [l0, l1, some (.int x), l3] (.int x :: st) σ Q := gs_go f_44_16 rfl
theorem f_44_17 : ft 44 17 = some (27, .aload_n 0, []) := rfl
theorem s_44_17 {d : Nat} {σ : xS} {st : List Value} {Q : xR → xS → Prop} {l1 l2 l3 : Option Value} {x : Nat} : G d 44 17 [some (.ref x), l1, l2, l3] st σ Q ↔ G d 44 18 [some (.ref x), l1, l2, l3] (.ref x :: st) σ Q := gs_go f_44_17 rfl
theorem f_44_18 : ft 44 18 = some (28, .aload_n 0, []) := rfl
theorem s_44_18 {d : Nat} {σ : xS} {st : List Value} {Q : xR → xS → Prop} {l1 l2 l3 : Option Value} {x : Nat} : G d 44 18 [some (.ref x), l1, l2, l3] st σ Q ↔ G d 44 19 [some (.ref x), l1, l2, l3] (.ref x :: st) σ Q := gs_go f_44_18 rfl
theorem f_44_19 : ft 44 19 = some (29, .getfield 27, [4, 5, 0, 152]) := rfl
theorem s_44_19 {d : Nat} {t : yT} {st : List Value} {Q : xR → xS → Prop} {l0 l1 l2 l3 : Option Value} {a : Nat} (ho : yisO 4 a) : G d 44 19 [l0, l1, l2, l3] (.ref a :: st) (yemb t) Q ↔ G d 44 20 [l0, l1, l2, l3] (.ref (a + 6) :: st) (yemb t) Q := gs_getf (c := 4) (j := 5) (q := .c (a + 6)) f_44_19 ho rfl
theorem f_44_20 : ft 44 20 = some (32, .iload_n 3, []) := rfl
theorem s_44_20 {d : Nat} {σ : xS} {st : List Value} {Q : xR → xS → Prop} {l0 l1 l2 : Option Value} {x : Int32} : G d 44 20 [l0, l1, l2, some (.int x)] st σ Q ↔ G d 44 21 [l0, l1, l2, some (.int x)] (.int x :: st) σ Q := gs_go f_44_20 rfl
theorem f_44_21 : ft 44 21 = some (33, .iaload, []) := rfl
theorem s_44_21 {d : Nat} {t : yT} {st : List Value} {Q : xR → xS → Prop} {l0 l1 l2 l3 : Option Value} {a : Nat} {x : Int32} (ha : yA 0 a) : G d 44 21 [l0, l1, l2, l3] (.int x :: .ref a :: st) (yemb t) Q ↔ yix x (yn a) ∧ G d 44 22 [l0, l1, l2, l3] (.int (t.A a x.toNatClampNeg) :: st) (yemb t) Q := gs_iald f_44_21 ha
theorem f_44_22 : ft 44 22 = some (34, .invokevirtual 104, [47, 2, 0, 1041]) := rfl
theorem s_44_22 {d : Nat} {t : yT} {st : List Value} {Q : xR → xS → Prop} {l0 l1 l2 l3 : Option Value} {a0 : Nat} {a1 : Int32} (ho : yisO 4 a0) : G (d + 1) 44 22 [l0, l1, l2, l3] (.int a1 :: .ref a0 :: st) (yemb t) Q ↔ xcat st ≤ 8 ∧ Cl d 47 [.ref a0, .int a1] (yemb t) (Gk (d + 1) 44 22 [l0, l1, l2, l3] st Q) := gs_call f_44_22 ((xinv_call (i := 22) (n := 1041) (ls := [l0, l1, l2, l3]) (kind := 0) (σ := yemb t) (by decide)).trans (xcall_vi [.int a1, .ref a0] rfl rfl (show (2 : Nat) ≤ 2 by decide) rfl ho))
theorem f_44_23 : ft 44 23 = some (37, .iadd, []) := rfl
theorem s_44_23 {d : Nat} {σ : xS} {st : List Value} {Q : xR → xS → Prop} {l0 l1 l2 l3 : Option Value} {x y : Int32} : G d 44 23 [l0, l1, l2, l3] (.int y :: .int x :: st) σ Q ↔ G d 44 24 [l0, l1, l2, l3] (.int (x + y) :: st) σ Q := gs_go f_44_23 rfl
theorem f_44_24 : ft 44 24 = some (38, .istore_n 2, []) := rfl
theorem s_44_24 {d : Nat} {σ : xS} {st : List Value} {Q : xR → xS → Prop} {l0 l1 l2 l3 : Option Value} {x : Int32} : G d 44 24 [l0, l1, l2, l3] (.int x :: st) σ Q ↔ G d 44 25 [l0, ykl l1, some (.int x), l3] st σ Q := by
  cases l1 with
  | none => exact gs_go f_44_24 rfl
  | some v => cases v <;> exact gs_go f_44_24 rfl
theorem f_44_25 : ft 44 25 = some (39, .iinc 3 1, []) := rfl
theorem s_44_25 {d : Nat} {σ : xS} {st : List Value} {Q : xR → xS → Prop} {l0 l1 l2 : Option Value} {x : Int32} : G d 44 25 [l0, l1, l2, some (.int x)] st σ Q ↔ G d 44 26 [l0, l1, ykl l2, some (.int (x + 1))] st σ Q := by
  cases l2 with
  | none => exact gs_go f_44_25 rfl
  | some v => cases v <;> exact gs_go f_44_25 rfl
theorem f_44_26 : ft 44 26 = some (42, .goto (-33), [7]) := rfl
theorem s_44_26 {d : Nat} {σ : xS} {st : List Value} {Q : xR → xS → Prop} {l0 l1 l2 l3 : Option Value} : G d 44 26 [l0, l1, l2, l3] st σ Q ↔ G d 44 7 [l0, l1, l2, l3] st σ Q := gs_go f_44_26 rfl
theorem f_44_27 : ft 44 27 = some (45, .iload_n 2, []) := rfl
theorem s_44_27 {d : Nat} {σ : xS} {st : List Value} {Q : xR → xS → Prop} {l0 l1 l3 : Option Value} {x : Int32} : G d 44 27 [l0, l1, some (.int x), l3] st σ Q ↔ G d 44 28 [l0, l1, some (.int x), l3] (.int x :: st) σ Q := gs_go f_44_27 rfl
theorem f_44_28 : ft 44 28 = some (46, .ireturn, []) := rfl
theorem s_44_28 {d : Nat} {σ : xS} {ls : xL} {Q : xR → xS → Prop} {x : Int32} : G d 44 28 ls [.int x] σ Q ↔ Q (.inl (some (.int x))) σ := gs_reti f_44_28 rfl
theorem f_46_0 : ft 46 0 = some (0, .aload_n 0, []) := rfl
theorem s_46_0 {d : Nat} {σ : xS} {st : List Value} {Q : xR → xS → Prop} {l1 : Option Value} {x : Nat} : G d 46 0 [some (.ref x), l1] st σ Q ↔ G d 46 1 [some (.ref x), l1] (.ref x :: st) σ Q := gs_go f_46_0 rfl
theorem f_46_1 : ft 46 1 = some (1, .getfield 18, [4, 2, 0, 146]) := rfl
theorem s_46_1 {d : Nat} {t : yT} {st : List Value} {Q : xR → xS → Prop} {l0 l1 : Option Value} {a : Nat} (ho : yisO 4 a) : G d 46 1 [l0, l1] (.ref a :: st) (yemb t) Q ↔ G d 46 2 [l0, l1] (.ref (a + 3) :: st) (yemb t) Q := gs_getf (c := 4) (j := 2) (q := .c (a + 3)) f_46_1 ho rfl
theorem f_46_2 : ft 46 2 = some (4, .iload_n 1, []) := rfl
theorem s_46_2 {d : Nat} {σ : xS} {st : List Value} {Q : xR → xS → Prop} {l0 : Option Value} {x : Int32} : G d 46 2 [l0, some (.int x)] st σ Q ↔ G d 46 3 [l0, some (.int x)] (.int x :: st) σ Q := gs_go f_46_2 rfl
theorem f_46_3 : ft 46 3 = some (5, .iaload, []) := rfl
theorem s_46_3 {d : Nat} {t : yT} {st : List Value} {Q : xR → xS → Prop} {l0 l1 : Option Value} {a : Nat} {x : Int32} (ha : yA 0 a) : G d 46 3 [l0, l1] (.int x :: .ref a :: st) (yemb t) Q ↔ yix x (yn a) ∧ G d 46 4 [l0, l1] (.int (t.A a x.toNatClampNeg) :: st) (yemb t) Q := gs_iald f_46_3 ha
theorem f_46_4 : ft 46 4 = some (6, .ifCond .eq 13, [11]) := rfl
theorem s_46_4 {d : Nat} {σ : xS} {st : List Value} {Q : xR → xS → Prop} {l0 l1 : Option Value} {x : Int32} : G d 46 4 [l0, l1] (.int x :: st) σ Q ↔ if x = 0 then G d 46 11 [l0, l1] st σ Q else G d 46 5 [l0, l1] st σ Q := gs_if f_46_4 rfl
theorem f_46_5 : ft 46 5 = some (9, .aload_n 0, []) := rfl
theorem s_46_5 {d : Nat} {σ : xS} {st : List Value} {Q : xR → xS → Prop} {l1 : Option Value} {x : Nat} : G d 46 5 [some (.ref x), l1] st σ Q ↔ G d 46 6 [some (.ref x), l1] (.ref x :: st) σ Q := gs_go f_46_5 rfl
theorem f_46_6 : ft 46 6 = some (10, .getfield 18, [4, 2, 0, 146]) := rfl
theorem s_46_6 {d : Nat} {t : yT} {st : List Value} {Q : xR → xS → Prop} {l0 l1 : Option Value} {a : Nat} (ho : yisO 4 a) : G d 46 6 [l0, l1] (.ref a :: st) (yemb t) Q ↔ G d 46 7 [l0, l1] (.ref (a + 3) :: st) (yemb t) Q := gs_getf (c := 4) (j := 2) (q := .c (a + 3)) f_46_6 ho rfl
theorem f_46_7 : ft 46 7 = some (13, .iload_n 1, []) := rfl
theorem s_46_7 {d : Nat} {σ : xS} {st : List Value} {Q : xR → xS → Prop} {l0 : Option Value} {x : Int32} : G d 46 7 [l0, some (.int x)] st σ Q ↔ G d 46 8 [l0, some (.int x)] (.int x :: st) σ Q := gs_go f_46_7 rfl
theorem f_46_8 : ft 46 8 = some (14, .iaload, []) := rfl
theorem s_46_8 {d : Nat} {t : yT} {st : List Value} {Q : xR → xS → Prop} {l0 l1 : Option Value} {a : Nat} {x : Int32} (ha : yA 0 a) : G d 46 8 [l0, l1] (.int x :: .ref a :: st) (yemb t) Q ↔ yix x (yn a) ∧ G d 46 9 [l0, l1] (.int (t.A a x.toNatClampNeg) :: st) (yemb t) Q := gs_iald f_46_8 ha
theorem f_46_9 : ft 46 9 = some (15, .iconst 3, []) := rfl
theorem s_46_9 {d : Nat} {σ : xS} {st : List Value} {Q : xR → xS → Prop} {l0 l1 : Option Value} : G d 46 9 [l0, l1] st σ Q ↔ G d 46 10 [l0, l1] (.int (3) :: st) σ Q := gs_go f_46_9 rfl
theorem f_46_10 : ft 46 10 = some (16, .if_icmp .ne 18, [18]) := rfl
theorem s_46_10 {d : Nat} {σ : xS} {st : List Value} {Q : xR → xS → Prop} {l0 l1 : Option Value} {x y : Int32} : G d 46 10 [l0, l1] (.int y :: .int x :: st) σ Q ↔ if x ≠ y then G d 46 18 [l0, l1] st σ Q else G d 46 11 [l0, l1] st σ Q := gs_if f_46_10 rfl
theorem f_46_11 : ft 46 11 = some (19, .aload_n 0, []) := rfl
theorem s_46_11 {d : Nat} {σ : xS} {st : List Value} {Q : xR → xS → Prop} {l1 : Option Value} {x : Nat} : G d 46 11 [some (.ref x), l1] st σ Q ↔ G d 46 12 [some (.ref x), l1] (.ref x :: st) σ Q := gs_go f_46_11 rfl
theorem f_46_12 : ft 46 12 = some (20, .getfield 62, [4, 15, 0, 176]) := rfl
theorem s_46_12 {d : Nat} {t : yT} {st : List Value} {Q : xR → xS → Prop} {l0 l1 : Option Value} {a : Nat} (ho : yisO 4 a) : G d 46 12 [l0, l1] (.ref a :: st) (yemb t) Q ↔ G d 46 13 [l0, l1] (.long (t.L a 15) :: st) (yemb t) Q := gs_getf (c := 4) (j := 15) (q := .l) f_46_12 ho rfl
theorem f_46_13 : ft 46 13 = some (23, .iload_n 1, []) := rfl
theorem s_46_13 {d : Nat} {σ : xS} {st : List Value} {Q : xR → xS → Prop} {l0 : Option Value} {x : Int32} : G d 46 13 [l0, some (.int x)] st σ Q ↔ G d 46 14 [l0, some (.int x)] (.int x :: st) σ Q := gs_go f_46_13 rfl
theorem f_46_14 : ft 46 14 = some (24, .invokestatic 84, [64, 2, 1, 1020]) := rfl
theorem s_46_14 {d : Nat} {σ : xS} {st : List Value} {Q : xR → xS → Prop} {l0 l1 : Option Value} {a0 : Int64} {a1 : Int32} : G (d + 1) 46 14 [l0, l1] (.int a1 :: .long a0 :: st) σ Q ↔ xcat st ≤ 8 ∧ Cl d 64 [.long a0, .int a1] σ (Gk (d + 1) 46 14 [l0, l1] st Q) := gs_call f_46_14 ((xinv_call (i := 14) (n := 1020) (ls := [l0, l1]) (kind := 1) (σ := σ) (by decide)).trans (xcall_st [.int a1, .long a0] rfl (by decide) (show (3 : Nat) ≤ 3 by decide)))
theorem f_46_15 : ft 46 15 = some (27, .ifCond .ne 7, [18]) := rfl
theorem s_46_15 {d : Nat} {σ : xS} {st : List Value} {Q : xR → xS → Prop} {l0 l1 : Option Value} {x : Int32} : G d 46 15 [l0, l1] (.int x :: st) σ Q ↔ if x ≠ 0 then G d 46 18 [l0, l1] st σ Q else G d 46 16 [l0, l1] st σ Q := gs_if f_46_15 rfl
theorem f_46_16 : ft 46 16 = some (30, .iconst 1, []) := rfl
theorem s_46_16 {d : Nat} {σ : xS} {st : List Value} {Q : xR → xS → Prop} {l0 l1 : Option Value} : G d 46 16 [l0, l1] st σ Q ↔ G d 46 17 [l0, l1] (.int (1) :: st) σ Q := gs_go f_46_16 rfl
theorem f_46_17 : ft 46 17 = some (31, .goto 4, [19]) := rfl
theorem s_46_17 {d : Nat} {σ : xS} {st : List Value} {Q : xR → xS → Prop} {l0 l1 : Option Value} : G d 46 17 [l0, l1] st σ Q ↔ G d 46 19 [l0, l1] st σ Q := gs_go f_46_17 rfl
theorem f_46_18 : ft 46 18 = some (34, .iconst 0, []) := rfl
theorem s_46_18 {d : Nat} {σ : xS} {st : List Value} {Q : xR → xS → Prop} {l0 l1 : Option Value} : G d 46 18 [l0, l1] st σ Q ↔ G d 46 19 [l0, l1] (.int (0) :: st) σ Q := gs_go f_46_18 rfl
theorem f_46_19 : ft 46 19 = some (35, .ireturn, []) := rfl
theorem s_46_19 {d : Nat} {σ : xS} {ls : xL} {Q : xR → xS → Prop} {x : Int32} : G d 46 19 ls [.int x] σ Q ↔ ybo x ∧ Q (.inl (some (.int x))) σ := gs_retb f_46_19 rfl
theorem f_47_0 : ft 47 0 = some (0, .iload_n 1, []) := rfl
theorem s_47_0 {d : Nat} {σ : xS} {st : List Value} {Q : xR → xS → Prop} {l0 : Option Value} {x : Int32} : G d 47 0 [l0, some (.int x)] st σ Q ↔ G d 47 1 [l0, some (.int x)] (.int x :: st) σ Q := gs_go f_47_0 rfl
theorem f_47_1 : ft 47 1 = some (1, .bipush 16, []) := rfl
theorem s_47_1 {d : Nat} {σ : xS} {st : List Value} {Q : xR → xS → Prop} {l0 l1 : Option Value} : G d 47 1 [l0, l1] st σ Q ↔ G d 47 2 [l0, l1] (.int (16) :: st) σ Q := gs_go f_47_1 rfl
theorem f_47_2 : ft 47 2 = some (3, .ishr, []) := rfl
theorem s_47_2 {d : Nat} {σ : xS} {st : List Value} {Q : xR → xS → Prop} {l0 l1 : Option Value} {x y : Int32} : G d 47 2 [l0, l1] (.int y :: .int x :: st) σ Q ↔ G d 47 3 [l0, l1] (.int (x >>> (y &&& 31)) :: st) σ Q := gs_go f_47_2 rfl
theorem f_47_3 : ft 47 3 = some (4, .sipush 255, []) := rfl
theorem s_47_3 {d : Nat} {σ : xS} {st : List Value} {Q : xR → xS → Prop} {l0 l1 : Option Value} : G d 47 3 [l0, l1] st σ Q ↔ G d 47 4 [l0, l1] (.int (255) :: st) σ Q := gs_go f_47_3 rfl
theorem f_47_4 : ft 47 4 = some (7, .iand, []) := rfl
theorem s_47_4 {d : Nat} {σ : xS} {st : List Value} {Q : xR → xS → Prop} {l0 l1 : Option Value} {x y : Int32} : G d 47 4 [l0, l1] (.int y :: .int x :: st) σ Q ↔ G d 47 5 [l0, l1] (.int (x &&& y) :: st) σ Q := gs_go f_47_4 rfl
theorem f_47_5 : ft 47 5 = some (8, .iload_n 1, []) := rfl
theorem s_47_5 {d : Nat} {σ : xS} {st : List Value} {Q : xR → xS → Prop} {l0 : Option Value} {x : Int32} : G d 47 5 [l0, some (.int x)] st σ Q ↔ G d 47 6 [l0, some (.int x)] (.int x :: st) σ Q := gs_go f_47_5 rfl
theorem f_47_6 : ft 47 6 = some (9, .bipush 8, []) := rfl
theorem s_47_6 {d : Nat} {σ : xS} {st : List Value} {Q : xR → xS → Prop} {l0 l1 : Option Value} : G d 47 6 [l0, l1] st σ Q ↔ G d 47 7 [l0, l1] (.int (8) :: st) σ Q := gs_go f_47_6 rfl
theorem f_47_7 : ft 47 7 = some (11, .ishr, []) := rfl
theorem s_47_7 {d : Nat} {σ : xS} {st : List Value} {Q : xR → xS → Prop} {l0 l1 : Option Value} {x y : Int32} : G d 47 7 [l0, l1] (.int y :: .int x :: st) σ Q ↔ G d 47 8 [l0, l1] (.int (x >>> (y &&& 31)) :: st) σ Q := gs_go f_47_7 rfl
theorem f_47_8 : ft 47 8 = some (12, .sipush 255, []) := rfl
theorem s_47_8 {d : Nat} {σ : xS} {st : List Value} {Q : xR → xS → Prop} {l0 l1 : Option Value} : G d 47 8 [l0, l1] st σ Q ↔ G d 47 9 [l0, l1] (.int (255) :: st) σ Q := gs_go f_47_8 rfl
theorem f_47_9 : ft 47 9 = some (15, .iand, []) := rfl
theorem s_47_9 {d : Nat} {σ : xS} {st : List Value} {Q : xR → xS → Prop} {l0 l1 : Option Value} {x y : Int32} : G d 47 9 [l0, l1] (.int y :: .int x :: st) σ Q ↔ G d 47 10 [l0, l1] (.int (x &&& y) :: st) σ Q := gs_go f_47_9 rfl
theorem f_47_10 : ft 47 10 = some (16, .iadd, []) := rfl
theorem s_47_10 {d : Nat} {σ : xS} {st : List Value} {Q : xR → xS → Prop} {l0 l1 : Option Value} {x y : Int32} : G d 47 10 [l0, l1] (.int y :: .int x :: st) σ Q ↔ G d 47 11 [l0, l1] (.int (x + y) :: st) σ Q := gs_go f_47_10 rfl
theorem f_47_11 : ft 47 11 = some (17, .iload_n 1, []) := rfl
theorem s_47_11 {d : Nat} {σ : xS} {st : List Value} {Q : xR → xS → Prop} {l0 : Option Value} {x : Int32} : G d 47 11 [l0, some (.int x)] st σ Q ↔ G d 47 12 [l0, some (.int x)] (.int x :: st) σ Q := gs_go f_47_11 rfl
theorem f_47_12 : ft 47 12 = some (18, .sipush 255, []) := rfl
theorem s_47_12 {d : Nat} {σ : xS} {st : List Value} {Q : xR → xS → Prop} {l0 l1 : Option Value} : G d 47 12 [l0, l1] st σ Q ↔ G d 47 13 [l0, l1] (.int (255) :: st) σ Q := gs_go f_47_12 rfl
theorem f_47_13 : ft 47 13 = some (21, .iand, []) := rfl
theorem s_47_13 {d : Nat} {σ : xS} {st : List Value} {Q : xR → xS → Prop} {l0 l1 : Option Value} {x y : Int32} : G d 47 13 [l0, l1] (.int y :: .int x :: st) σ Q ↔ G d 47 14 [l0, l1] (.int (x &&& y) :: st) σ Q := gs_go f_47_13 rfl
theorem f_47_14 : ft 47 14 = some (22, .iadd, []) := rfl
theorem s_47_14 {d : Nat} {σ : xS} {st : List Value} {Q : xR → xS → Prop} {l0 l1 : Option Value} {x y : Int32} : G d 47 14 [l0, l1] (.int y :: .int x :: st) σ Q ↔ G d 47 15 [l0, l1] (.int (x + y) :: st) σ Q := gs_go f_47_14 rfl
theorem f_47_15 : ft 47 15 = some (23, .aload_n 0, []) := rfl
theorem s_47_15 {d : Nat} {σ : xS} {st : List Value} {Q : xR → xS → Prop} {l1 : Option Value} {x : Nat} : G d 47 15 [some (.ref x), l1] st σ Q ↔ G d 47 16 [some (.ref x), l1] (.ref x :: st) σ Q := gs_go f_47_15 rfl
theorem f_47_16 : ft 47 16 = some (24, .getfield 50, [4, 10, 0, 163]) := rfl
theorem s_47_16 {d : Nat} {t : yT} {st : List Value} {Q : xR → xS → Prop} {l0 l1 : Option Value} {a : Nat} (ho : yisO 4 a) : G d 47 16 [l0, l1] (.ref a :: st) (yemb t) Q ↔ G d 47 17 [l0, l1] (.int (t.A a 10) :: st) (yemb t) Q := gs_getf (c := 4) (j := 10) (q := .i) f_47_16 ho rfl
theorem f_47_17 : ft 47 17 = some (27, .imul, []) := rfl
theorem s_47_17 {d : Nat} {σ : xS} {st : List Value} {Q : xR → xS → Prop} {l0 l1 : Option Value} {x y : Int32} : G d 47 17 [l0, l1] (.int y :: .int x :: st) σ Q ↔ G d 47 18 [l0, l1] (.int (x * y) :: st) σ Q := gs_go f_47_17 rfl
theorem f_47_18 : ft 47 18 = some (28, .sipush 765, []) := rfl
theorem s_47_18 {d : Nat} {σ : xS} {st : List Value} {Q : xR → xS → Prop} {l0 l1 : Option Value} : G d 47 18 [l0, l1] st σ Q ↔ G d 47 19 [l0, l1] (.int (765) :: st) σ Q := gs_go f_47_18 rfl
theorem f_47_19 : ft 47 19 = some (31, .idiv, []) := rfl
theorem s_47_19 {d : Nat} {σ : xS} {st : List Value} {Q : xR → xS → Prop} {l0 l1 : Option Value} {x y : Int32} (h : ¬ y = 0) : G d 47 19 [l0, l1] (.int y :: .int x :: st) σ Q ↔ G d 47 20 [l0, l1] (.int (x / y) :: st) σ Q := gs_go f_47_19 (if_pos h)
theorem f_47_20 : ft 47 20 = some (32, .ireturn, []) := rfl
theorem s_47_20 {d : Nat} {σ : xS} {ls : xL} {Q : xR → xS → Prop} {x : Int32} : G d 47 20 ls [.int x] σ Q ↔ Q (.inl (some (.int x))) σ := gs_reti f_47_20 rfl
theorem f_48_0 : ft 48 0 = some (0, .aload_n 0, []) := rfl
theorem s_48_0 {d : Nat} {σ : xS} {st : List Value} {Q : xR → xS → Prop} {l1 l2 : Option Value} {x : Nat} : G d 48 0 [some (.ref x), l1, l2] st σ Q ↔ G d 48 1 [some (.ref x), l1, l2] (.ref x :: st) σ Q := gs_go f_48_0 rfl
theorem f_48_1 : ft 48 1 = some (1, .iload_n 1, []) := rfl
theorem s_48_1 {d : Nat} {σ : xS} {st : List Value} {Q : xR → xS → Prop} {l0 l2 : Option Value} {x : Int32} : G d 48 1 [l0, some (.int x), l2] st σ Q ↔ G d 48 2 [l0, some (.int x), l2] (.int x :: st) σ Q := gs_go f_48_1 rfl
theorem f_48_2 : ft 48 2 = some (2, .invokevirtual 101, [46, 2, 0, 1037]) := rfl
theorem s_48_2 {d : Nat} {t : yT} {st : List Value} {Q : xR → xS → Prop} {l0 l1 l2 : Option Value} {a0 : Nat} {a1 : Int32} (ho : yisO 4 a0) : G (d + 1) 48 2 [l0, l1, l2] (.int a1 :: .ref a0 :: st) (yemb t) Q ↔ xcat st ≤ 8 ∧ Cl d 46 [.ref a0, .int a1] (yemb t) (Gk (d + 1) 48 2 [l0, l1, l2] st Q) := gs_call f_48_2 ((xinv_call (i := 2) (n := 1037) (ls := [l0, l1, l2]) (kind := 0) (σ := yemb t) (by decide)).trans (xcall_vi [.int a1, .ref a0] rfl rfl (show (2 : Nat) ≤ 2 by decide) rfl ho))
theorem f_48_3 : ft 48 3 = some (5, .ifCond .ne 5, [6]) := rfl
theorem s_48_3 {d : Nat} {σ : xS} {st : List Value} {Q : xR → xS → Prop} {l0 l1 l2 : Option Value} {x : Int32} : G d 48 3 [l0, l1, l2] (.int x :: st) σ Q ↔ if x ≠ 0 then G d 48 6 [l0, l1, l2] st σ Q else G d 48 4 [l0, l1, l2] st σ Q := gs_if f_48_3 rfl
theorem f_48_4 : ft 48 4 = some (8, .iconst 0, []) := rfl
theorem s_48_4 {d : Nat} {σ : xS} {st : List Value} {Q : xR → xS → Prop} {l0 l1 l2 : Option Value} : G d 48 4 [l0, l1, l2] st σ Q ↔ G d 48 5 [l0, l1, l2] (.int (0) :: st) σ Q := gs_go f_48_4 rfl
theorem f_48_5 : ft 48 5 = some (9, .ireturn, []) := rfl
theorem s_48_5 {d : Nat} {σ : xS} {ls : xL} {Q : xR → xS → Prop} {x : Int32} : G d 48 5 ls [.int x] σ Q ↔ Q (.inl (some (.int x))) σ := gs_reti f_48_5 rfl
theorem f_48_6 : ft 48 6 = some (10, .aload_n 0, []) := rfl
theorem s_48_6 {d : Nat} {σ : xS} {st : List Value} {Q : xR → xS → Prop} {l1 l2 : Option Value} {x : Nat} : G d 48 6 [some (.ref x), l1, l2] st σ Q ↔ G d 48 7 [some (.ref x), l1, l2] (.ref x :: st) σ Q := gs_go f_48_6 rfl
theorem f_48_7 : ft 48 7 = some (11, .iload_n 1, []) := rfl
theorem s_48_7 {d : Nat} {σ : xS} {st : List Value} {Q : xR → xS → Prop} {l0 l2 : Option Value} {x : Int32} : G d 48 7 [l0, some (.int x), l2] st σ Q ↔ G d 48 8 [l0, some (.int x), l2] (.int x :: st) σ Q := gs_go f_48_7 rfl
theorem f_48_8 : ft 48 8 = some (12, .invokevirtual 107, [42, 2, 0, 1100]) := rfl
theorem s_48_8 {d : Nat} {t : yT} {st : List Value} {Q : xR → xS → Prop} {l0 l1 l2 : Option Value} {a0 : Nat} {a1 : Int32} (ho : yisO 4 a0) : G (d + 1) 48 8 [l0, l1, l2] (.int a1 :: .ref a0 :: st) (yemb t) Q ↔ xcat st ≤ 8 ∧ Cl d 42 [.ref a0, .int a1] (yemb t) (Gk (d + 1) 48 8 [l0, l1, l2] st Q) := gs_call f_48_8 ((xinv_call (i := 8) (n := 1100) (ls := [l0, l1, l2]) (kind := 0) (σ := yemb t) (by decide)).trans (xcall_vi [.int a1, .ref a0] rfl rfl (show (2 : Nat) ≤ 4 by decide) rfl ho))
theorem f_48_9 : ft 48 9 = some (15, .istore_n 2, []) := rfl
theorem s_48_9 {d : Nat} {σ : xS} {st : List Value} {Q : xR → xS → Prop} {l0 l1 l2 : Option Value} {x : Int32} : G d 48 9 [l0, l1, l2] (.int x :: st) σ Q ↔ G d 48 10 [l0, ykl l1, some (.int x)] st σ Q := by
  cases l1 with
  | none => exact gs_go f_48_9 rfl
  | some v => cases v <;> exact gs_go f_48_9 rfl
theorem f_48_10 : ft 48 10 = some (16, .aload_n 0, []) := rfl
theorem s_48_10 {d : Nat} {σ : xS} {st : List Value} {Q : xR → xS → Prop} {l1 l2 : Option Value} {x : Nat} : G d 48 10 [some (.ref x), l1, l2] st σ Q ↔ G d 48 11 [some (.ref x), l1, l2] (.ref x :: st) σ Q := gs_go f_48_10 rfl
theorem f_48_11 : ft 48 11 = some (17, .getfield 27, [4, 5, 0, 152]) := rfl
theorem s_48_11 {d : Nat} {t : yT} {st : List Value} {Q : xR → xS → Prop} {l0 l1 l2 : Option Value} {a : Nat} (ho : yisO 4 a) : G d 48 11 [l0, l1, l2] (.ref a :: st) (yemb t) Q ↔ G d 48 12 [l0, l1, l2] (.ref (a + 6) :: st) (yemb t) Q := gs_getf (c := 4) (j := 5) (q := .c (a + 6)) f_48_11 ho rfl
theorem f_48_12 : ft 48 12 = some (20, .iload_n 1, []) := rfl
theorem s_48_12 {d : Nat} {σ : xS} {st : List Value} {Q : xR → xS → Prop} {l0 l2 : Option Value} {x : Int32} : G d 48 12 [l0, some (.int x), l2] st σ Q ↔ G d 48 13 [l0, some (.int x), l2] (.int x :: st) σ Q := gs_go f_48_12 rfl
theorem f_48_13 : ft 48 13 = some (21, .iaload, []) := rfl
theorem s_48_13 {d : Nat} {t : yT} {st : List Value} {Q : xR → xS → Prop} {l0 l1 l2 : Option Value} {a : Nat} {x : Int32} (ha : yA 0 a) : G d 48 13 [l0, l1, l2] (.int x :: .ref a :: st) (yemb t) Q ↔ yix x (yn a) ∧ G d 48 14 [l0, l1, l2] (.int (t.A a x.toNatClampNeg) :: st) (yemb t) Q := gs_iald f_48_13 ha
theorem f_48_14 : ft 48 14 = some (22, .aload_n 0, []) := rfl
theorem s_48_14 {d : Nat} {σ : xS} {st : List Value} {Q : xR → xS → Prop} {l1 l2 : Option Value} {x : Nat} : G d 48 14 [some (.ref x), l1, l2] st σ Q ↔ G d 48 15 [some (.ref x), l1, l2] (.ref x :: st) σ Q := gs_go f_48_14 rfl
theorem f_48_15 : ft 48 15 = some (23, .getfield 36, [4, 8, 0, 158]) := rfl
theorem s_48_15 {d : Nat} {t : yT} {st : List Value} {Q : xR → xS → Prop} {l0 l1 l2 : Option Value} {a : Nat} (ho : yisO 4 a) : G d 48 15 [l0, l1, l2] (.ref a :: st) (yemb t) Q ↔ G d 48 16 [l0, l1, l2] (.ref (a + 9) :: st) (yemb t) Q := gs_getf (c := 4) (j := 8) (q := .c (a + 9)) f_48_15 ho rfl
theorem f_48_16 : ft 48 16 = some (26, .iload_n 2, []) := rfl
theorem s_48_16 {d : Nat} {σ : xS} {st : List Value} {Q : xR → xS → Prop} {l0 l1 : Option Value} {x : Int32} : G d 48 16 [l0, l1, some (.int x)] st σ Q ↔ G d 48 17 [l0, l1, some (.int x)] (.int x :: st) σ Q := gs_go f_48_16 rfl
theorem f_48_17 : ft 48 17 = some (27, .iaload, []) := rfl
theorem s_48_17 {d : Nat} {t : yT} {st : List Value} {Q : xR → xS → Prop} {l0 l1 l2 : Option Value} {a : Nat} {x : Int32} (ha : yA 0 a) : G d 48 17 [l0, l1, l2] (.int x :: .ref a :: st) (yemb t) Q ↔ yix x (yn a) ∧ G d 48 18 [l0, l1, l2] (.int (t.A a x.toNatClampNeg) :: st) (yemb t) Q := gs_iald f_48_17 ha
theorem f_48_18 : ft 48 18 = some (28, .aload_n 0, []) := rfl
theorem s_48_18 {d : Nat} {σ : xS} {st : List Value} {Q : xR → xS → Prop} {l1 l2 : Option Value} {x : Nat} : G d 48 18 [some (.ref x), l1, l2] st σ Q ↔ G d 48 19 [some (.ref x), l1, l2] (.ref x :: st) σ Q := gs_go f_48_18 rfl
theorem f_48_19 : ft 48 19 = some (29, .iload_n 2, []) := rfl
theorem s_48_19 {d : Nat} {σ : xS} {st : List Value} {Q : xR → xS → Prop} {l0 l1 : Option Value} {x : Int32} : G d 48 19 [l0, l1, some (.int x)] st σ Q ↔ G d 48 20 [l0, l1, some (.int x)] (.int x :: st) σ Q := gs_go f_48_19 rfl
theorem f_48_20 : ft 48 20 = some (30, .invokevirtual 110, [44, 2, 0, 1029]) := rfl
theorem s_48_20 {d : Nat} {t : yT} {st : List Value} {Q : xR → xS → Prop} {l0 l1 l2 : Option Value} {a0 : Nat} {a1 : Int32} (ho : yisO 4 a0) : G (d + 1) 48 20 [l0, l1, l2] (.int a1 :: .ref a0 :: st) (yemb t) Q ↔ xcat st ≤ 8 ∧ Cl d 44 [.ref a0, .int a1] (yemb t) (Gk (d + 1) 48 20 [l0, l1, l2] st Q) := gs_call f_48_20 ((xinv_call (i := 20) (n := 1029) (ls := [l0, l1, l2]) (kind := 0) (σ := yemb t) (by decide)).trans (xcall_vi [.int a1, .ref a0] rfl rfl (show (2 : Nat) ≤ 4 by decide) rfl ho))
theorem f_48_21 : ft 48 21 = some (33, .invokestatic 113, [49, 3, 1, 1045]) := rfl
theorem s_48_21 {d : Nat} {σ : xS} {st : List Value} {Q : xR → xS → Prop} {l0 l1 l2 : Option Value} {a0 : Int32} {a1 : Int32} {a2 : Int32} : G (d + 1) 48 21 [l0, l1, l2] (.int a2 :: .int a1 :: .int a0 :: st) σ Q ↔ xcat st ≤ 8 ∧ Cl d 49 [.int a0, .int a1, .int a2] σ (Gk (d + 1) 48 21 [l0, l1, l2] st Q) := gs_call f_48_21 ((xinv_call (i := 21) (n := 1045) (ls := [l0, l1, l2]) (kind := 1) (σ := σ) (by decide)).trans (xcall_st [.int a2, .int a1, .int a0] rfl (by decide) (show (3 : Nat) ≤ 6 by decide)))
theorem f_48_22 : ft 48 22 = some (36, .ireturn, []) := rfl
theorem s_48_22 {d : Nat} {σ : xS} {ls : xL} {Q : xR → xS → Prop} {x : Int32} : G d 48 22 ls [.int x] σ Q ↔ Q (.inl (some (.int x))) σ := gs_reti f_48_22 rfl
theorem f_49_0 : ft 49 0 = some (0, .iload_n 2, []) := rfl
theorem s_49_0 {d : Nat} {σ : xS} {st : List Value} {Q : xR → xS → Prop} {l0 l1 l3 l4 l5 : Option Value} {x : Int32} : G d 49 0 [l0, l1, some (.int x), l3, l4, l5] st σ Q ↔ G d 49 1 [l0, l1, some (.int x), l3, l4, l5] (.int x :: st) σ Q := gs_go f_49_0 rfl
theorem f_49_1 : ft 49 1 = some (1, .iload_n 1, []) := rfl
theorem s_49_1 {d : Nat} {σ : xS} {st : List Value} {Q : xR → xS → Prop} {l0 l2 l3 l4 l5 : Option Value} {x : Int32} : G d 49 1 [l0, some (.int x), l2, l3, l4, l5] st σ Q ↔ G d 49 2 [l0, some (.int x), l2, l3, l4, l5] (.int x :: st) σ Q := gs_go f_49_1 rfl
theorem f_49_2 : ft 49 2 = some (2, .if_icmp .le 7, [5]) := rfl
theorem s_49_2 {d : Nat} {σ : xS} {st : List Value} {Q : xR → xS → Prop} {l0 l1 l2 l3 l4 l5 : Option Value} {x y : Int32} : G d 49 2 [l0, l1, l2, l3, l4, l5] (.int y :: .int x :: st) σ Q ↔ if x ≤ y then G d 49 5 [l0, l1, l2, l3, l4, l5] st σ Q else G d 49 3 [l0, l1, l2, l3, l4, l5] st σ Q := gs_if f_49_2 rfl
theorem f_49_3 : ft 49 3 = some (5, .iload_n 2, []) := rfl
theorem s_49_3 {d : Nat} {σ : xS} {st : List Value} {Q : xR → xS → Prop} {l0 l1 l3 l4 l5 : Option Value} {x : Int32} : G d 49 3 [l0, l1, some (.int x), l3, l4, l5] st σ Q ↔ G d 49 4 [l0, l1, some (.int x), l3, l4, l5] (.int x :: st) σ Q := gs_go f_49_3 rfl
theorem f_49_4 : ft 49 4 = some (6, .ifCond .gt 5, [7]) := rfl
theorem s_49_4 {d : Nat} {σ : xS} {st : List Value} {Q : xR → xS → Prop} {l0 l1 l2 l3 l4 l5 : Option Value} {x : Int32} : G d 49 4 [l0, l1, l2, l3, l4, l5] (.int x :: st) σ Q ↔ if 0 < x then G d 49 7 [l0, l1, l2, l3, l4, l5] st σ Q else G d 49 5 [l0, l1, l2, l3, l4, l5] st σ Q := gs_if f_49_4 rfl
theorem f_49_5 : ft 49 5 = some (9, .iload_n 0, []) := rfl
theorem s_49_5 {d : Nat} {σ : xS} {st : List Value} {Q : xR → xS → Prop} {l1 l2 l3 l4 l5 : Option Value} {x : Int32} : G d 49 5 [some (.int x), l1, l2, l3, l4, l5] st σ Q ↔ G d 49 6 [some (.int x), l1, l2, l3, l4, l5] (.int x :: st) σ Q := gs_go f_49_5 rfl
theorem f_49_6 : ft 49 6 = some (10, .ireturn, []) := rfl
theorem s_49_6 {d : Nat} {σ : xS} {ls : xL} {Q : xR → xS → Prop} {x : Int32} : G d 49 6 ls [.int x] σ Q ↔ Q (.inl (some (.int x))) σ := gs_reti f_49_6 rfl
theorem f_49_7 : ft 49 7 = some (11, .iload_n 0, []) := rfl
theorem s_49_7 {d : Nat} {σ : xS} {st : List Value} {Q : xR → xS → Prop} {l1 l2 l3 l4 l5 : Option Value} {x : Int32} : G d 49 7 [some (.int x), l1, l2, l3, l4, l5] st σ Q ↔ G d 49 8 [some (.int x), l1, l2, l3, l4, l5] (.int x :: st) σ Q := gs_go f_49_7 rfl
theorem f_49_8 : ft 49 8 = some (12, .bipush 16, []) := rfl
theorem s_49_8 {d : Nat} {σ : xS} {st : List Value} {Q : xR → xS → Prop} {l0 l1 l2 l3 l4 l5 : Option Value} : G d 49 8 [l0, l1, l2, l3, l4, l5] st σ Q ↔ G d 49 9 [l0, l1, l2, l3, l4, l5] (.int (16) :: st) σ Q := gs_go f_49_8 rfl
theorem f_49_9 : ft 49 9 = some (14, .ishr, []) := rfl
theorem s_49_9 {d : Nat} {σ : xS} {st : List Value} {Q : xR → xS → Prop} {l0 l1 l2 l3 l4 l5 : Option Value} {x y : Int32} : G d 49 9 [l0, l1, l2, l3, l4, l5] (.int y :: .int x :: st) σ Q ↔ G d 49 10 [l0, l1, l2, l3, l4, l5] (.int (x >>> (y &&& 31)) :: st) σ Q := gs_go f_49_9 rfl
theorem f_49_10 : ft 49 10 = some (15, .sipush 255, []) := rfl
theorem s_49_10 {d : Nat} {σ : xS} {st : List Value} {Q : xR → xS → Prop} {l0 l1 l2 l3 l4 l5 : Option Value} : G d 49 10 [l0, l1, l2, l3, l4, l5] st σ Q ↔ G d 49 11 [l0, l1, l2, l3, l4, l5] (.int (255) :: st) σ Q := gs_go f_49_10 rfl
theorem f_49_11 : ft 49 11 = some (18, .iand, []) := rfl
theorem s_49_11 {d : Nat} {σ : xS} {st : List Value} {Q : xR → xS → Prop} {l0 l1 l2 l3 l4 l5 : Option Value} {x y : Int32} : G d 49 11 [l0, l1, l2, l3, l4, l5] (.int y :: .int x :: st) σ Q ↔ G d 49 12 [l0, l1, l2, l3, l4, l5] (.int (x &&& y) :: st) σ Q := gs_go f_49_11 rfl
theorem f_49_12 : ft 49 12 = some (19, .iload_n 1, []) := rfl
theorem s_49_12 {d : Nat} {σ : xS} {st : List Value} {Q : xR → xS → Prop} {l0 l2 l3 l4 l5 : Option Value} {x : Int32} : G d 49 12 [l0, some (.int x), l2, l3, l4, l5] st σ Q ↔ G d 49 13 [l0, some (.int x), l2, l3, l4, l5] (.int x :: st) σ Q := gs_go f_49_12 rfl
theorem f_49_13 : ft 49 13 = some (20, .imul, []) := rfl
theorem s_49_13 {d : Nat} {σ : xS} {st : List Value} {Q : xR → xS → Prop} {l0 l1 l2 l3 l4 l5 : Option Value} {x y : Int32} : G d 49 13 [l0, l1, l2, l3, l4, l5] (.int y :: .int x :: st) σ Q ↔ G d 49 14 [l0, l1, l2, l3, l4, l5] (.int (x * y) :: st) σ Q := gs_go f_49_13 rfl
theorem f_49_14 : ft 49 14 = some (21, .iload_n 2, []) := rfl
theorem s_49_14 {d : Nat} {σ : xS} {st : List Value} {Q : xR → xS → Prop} {l0 l1 l3 l4 l5 : Option Value} {x : Int32} : G d 49 14 [l0, l1, some (.int x), l3, l4, l5] st σ Q ↔ G d 49 15 [l0, l1, some (.int x), l3, l4, l5] (.int x :: st) σ Q := gs_go f_49_14 rfl
theorem f_49_15 : ft 49 15 = some (22, .idiv, []) := rfl
theorem s_49_15 {d : Nat} {σ : xS} {st : List Value} {Q : xR → xS → Prop} {l0 l1 l2 l3 l4 l5 : Option Value} {x y : Int32} (h : ¬ y = 0) : G d 49 15 [l0, l1, l2, l3, l4, l5] (.int y :: .int x :: st) σ Q ↔ G d 49 16 [l0, l1, l2, l3, l4, l5] (.int (x / y) :: st) σ Q := gs_go f_49_15 (if_pos h)
theorem f_49_16 : ft 49 16 = some (23, .istore_n 3, []) := rfl
theorem s_49_16 {d : Nat} {σ : xS} {st : List Value} {Q : xR → xS → Prop} {l0 l1 l2 l3 l4 l5 : Option Value} {x : Int32} : G d 49 16 [l0, l1, l2, l3, l4, l5] (.int x :: st) σ Q ↔ G d 49 17 [l0, l1, ykl l2, some (.int x), l4, l5] st σ Q := by
  cases l2 with
  | none => exact gs_go f_49_16 rfl
  | some v => cases v <;> exact gs_go f_49_16 rfl
theorem f_49_17 : ft 49 17 = some (24, .iload_n 0, []) := rfl
theorem s_49_17 {d : Nat} {σ : xS} {st : List Value} {Q : xR → xS → Prop} {l1 l2 l3 l4 l5 : Option Value} {x : Int32} : G d 49 17 [some (.int x), l1, l2, l3, l4, l5] st σ Q ↔ G d 49 18 [some (.int x), l1, l2, l3, l4, l5] (.int x :: st) σ Q := gs_go f_49_17 rfl
theorem f_49_18 : ft 49 18 = some (25, .bipush 8, []) := rfl
theorem s_49_18 {d : Nat} {σ : xS} {st : List Value} {Q : xR → xS → Prop} {l0 l1 l2 l3 l4 l5 : Option Value} : G d 49 18 [l0, l1, l2, l3, l4, l5] st σ Q ↔ G d 49 19 [l0, l1, l2, l3, l4, l5] (.int (8) :: st) σ Q := gs_go f_49_18 rfl
theorem f_49_19 : ft 49 19 = some (27, .ishr, []) := rfl
theorem s_49_19 {d : Nat} {σ : xS} {st : List Value} {Q : xR → xS → Prop} {l0 l1 l2 l3 l4 l5 : Option Value} {x y : Int32} : G d 49 19 [l0, l1, l2, l3, l4, l5] (.int y :: .int x :: st) σ Q ↔ G d 49 20 [l0, l1, l2, l3, l4, l5] (.int (x >>> (y &&& 31)) :: st) σ Q := gs_go f_49_19 rfl
theorem f_49_20 : ft 49 20 = some (28, .sipush 255, []) := rfl
theorem s_49_20 {d : Nat} {σ : xS} {st : List Value} {Q : xR → xS → Prop} {l0 l1 l2 l3 l4 l5 : Option Value} : G d 49 20 [l0, l1, l2, l3, l4, l5] st σ Q ↔ G d 49 21 [l0, l1, l2, l3, l4, l5] (.int (255) :: st) σ Q := gs_go f_49_20 rfl
theorem f_49_21 : ft 49 21 = some (31, .iand, []) := rfl
theorem s_49_21 {d : Nat} {σ : xS} {st : List Value} {Q : xR → xS → Prop} {l0 l1 l2 l3 l4 l5 : Option Value} {x y : Int32} : G d 49 21 [l0, l1, l2, l3, l4, l5] (.int y :: .int x :: st) σ Q ↔ G d 49 22 [l0, l1, l2, l3, l4, l5] (.int (x &&& y) :: st) σ Q := gs_go f_49_21 rfl
theorem f_49_22 : ft 49 22 = some (32, .iload_n 1, []) := rfl
theorem s_49_22 {d : Nat} {σ : xS} {st : List Value} {Q : xR → xS → Prop} {l0 l2 l3 l4 l5 : Option Value} {x : Int32} : G d 49 22 [l0, some (.int x), l2, l3, l4, l5] st σ Q ↔ G d 49 23 [l0, some (.int x), l2, l3, l4, l5] (.int x :: st) σ Q := gs_go f_49_22 rfl
theorem f_49_23 : ft 49 23 = some (33, .imul, []) := rfl
theorem s_49_23 {d : Nat} {σ : xS} {st : List Value} {Q : xR → xS → Prop} {l0 l1 l2 l3 l4 l5 : Option Value} {x y : Int32} : G d 49 23 [l0, l1, l2, l3, l4, l5] (.int y :: .int x :: st) σ Q ↔ G d 49 24 [l0, l1, l2, l3, l4, l5] (.int (x * y) :: st) σ Q := gs_go f_49_23 rfl
theorem f_49_24 : ft 49 24 = some (34, .iload_n 2, []) := rfl
theorem s_49_24 {d : Nat} {σ : xS} {st : List Value} {Q : xR → xS → Prop} {l0 l1 l3 l4 l5 : Option Value} {x : Int32} : G d 49 24 [l0, l1, some (.int x), l3, l4, l5] st σ Q ↔ G d 49 25 [l0, l1, some (.int x), l3, l4, l5] (.int x :: st) σ Q := gs_go f_49_24 rfl
theorem f_49_25 : ft 49 25 = some (35, .idiv, []) := rfl
theorem s_49_25 {d : Nat} {σ : xS} {st : List Value} {Q : xR → xS → Prop} {l0 l1 l2 l3 l4 l5 : Option Value} {x y : Int32} (h : ¬ y = 0) : G d 49 25 [l0, l1, l2, l3, l4, l5] (.int y :: .int x :: st) σ Q ↔ G d 49 26 [l0, l1, l2, l3, l4, l5] (.int (x / y) :: st) σ Q := gs_go f_49_25 (if_pos h)
theorem f_49_26 : ft 49 26 = some (36, .istore 4, []) := rfl
theorem s_49_26 {d : Nat} {σ : xS} {st : List Value} {Q : xR → xS → Prop} {l0 l1 l2 l3 l4 l5 : Option Value} {x : Int32} : G d 49 26 [l0, l1, l2, l3, l4, l5] (.int x :: st) σ Q ↔ G d 49 27 [l0, l1, l2, ykl l3, some (.int x), l5] st σ Q := by
  cases l3 with
  | none => exact gs_go f_49_26 rfl
  | some v => cases v <;> exact gs_go f_49_26 rfl
theorem f_49_27 : ft 49 27 = some (38, .iload_n 0, []) := rfl
theorem s_49_27 {d : Nat} {σ : xS} {st : List Value} {Q : xR → xS → Prop} {l1 l2 l3 l4 l5 : Option Value} {x : Int32} : G d 49 27 [some (.int x), l1, l2, l3, l4, l5] st σ Q ↔ G d 49 28 [some (.int x), l1, l2, l3, l4, l5] (.int x :: st) σ Q := gs_go f_49_27 rfl
theorem f_49_28 : ft 49 28 = some (39, .sipush 255, []) := rfl
theorem s_49_28 {d : Nat} {σ : xS} {st : List Value} {Q : xR → xS → Prop} {l0 l1 l2 l3 l4 l5 : Option Value} : G d 49 28 [l0, l1, l2, l3, l4, l5] st σ Q ↔ G d 49 29 [l0, l1, l2, l3, l4, l5] (.int (255) :: st) σ Q := gs_go f_49_28 rfl
theorem f_49_29 : ft 49 29 = some (42, .iand, []) := rfl
theorem s_49_29 {d : Nat} {σ : xS} {st : List Value} {Q : xR → xS → Prop} {l0 l1 l2 l3 l4 l5 : Option Value} {x y : Int32} : G d 49 29 [l0, l1, l2, l3, l4, l5] (.int y :: .int x :: st) σ Q ↔ G d 49 30 [l0, l1, l2, l3, l4, l5] (.int (x &&& y) :: st) σ Q := gs_go f_49_29 rfl
theorem f_49_30 : ft 49 30 = some (43, .iload_n 1, []) := rfl
theorem s_49_30 {d : Nat} {σ : xS} {st : List Value} {Q : xR → xS → Prop} {l0 l2 l3 l4 l5 : Option Value} {x : Int32} : G d 49 30 [l0, some (.int x), l2, l3, l4, l5] st σ Q ↔ G d 49 31 [l0, some (.int x), l2, l3, l4, l5] (.int x :: st) σ Q := gs_go f_49_30 rfl
theorem f_49_31 : ft 49 31 = some (44, .imul, []) := rfl
theorem s_49_31 {d : Nat} {σ : xS} {st : List Value} {Q : xR → xS → Prop} {l0 l1 l2 l3 l4 l5 : Option Value} {x y : Int32} : G d 49 31 [l0, l1, l2, l3, l4, l5] (.int y :: .int x :: st) σ Q ↔ G d 49 32 [l0, l1, l2, l3, l4, l5] (.int (x * y) :: st) σ Q := gs_go f_49_31 rfl
theorem f_49_32 : ft 49 32 = some (45, .iload_n 2, []) := rfl
theorem s_49_32 {d : Nat} {σ : xS} {st : List Value} {Q : xR → xS → Prop} {l0 l1 l3 l4 l5 : Option Value} {x : Int32} : G d 49 32 [l0, l1, some (.int x), l3, l4, l5] st σ Q ↔ G d 49 33 [l0, l1, some (.int x), l3, l4, l5] (.int x :: st) σ Q := gs_go f_49_32 rfl
theorem f_49_33 : ft 49 33 = some (46, .idiv, []) := rfl
theorem s_49_33 {d : Nat} {σ : xS} {st : List Value} {Q : xR → xS → Prop} {l0 l1 l2 l3 l4 l5 : Option Value} {x y : Int32} (h : ¬ y = 0) : G d 49 33 [l0, l1, l2, l3, l4, l5] (.int y :: .int x :: st) σ Q ↔ G d 49 34 [l0, l1, l2, l3, l4, l5] (.int (x / y) :: st) σ Q := gs_go f_49_33 (if_pos h)
theorem f_49_34 : ft 49 34 = some (47, .istore 5, []) := rfl
theorem s_49_34 {d : Nat} {σ : xS} {st : List Value} {Q : xR → xS → Prop} {l0 l1 l2 l3 l4 l5 : Option Value} {x : Int32} : G d 49 34 [l0, l1, l2, l3, l4, l5] (.int x :: st) σ Q ↔ G d 49 35 [l0, l1, l2, l3, ykl l4, some (.int x)] st σ Q := by
  cases l4 with
  | none => exact gs_go f_49_34 rfl
  | some v => cases v <;> exact gs_go f_49_34 rfl
theorem f_49_35 : ft 49 35 = some (49, .iload_n 3, []) := rfl
theorem s_49_35 {d : Nat} {σ : xS} {st : List Value} {Q : xR → xS → Prop} {l0 l1 l2 l4 l5 : Option Value} {x : Int32} : G d 49 35 [l0, l1, l2, some (.int x), l4, l5] st σ Q ↔ G d 49 36 [l0, l1, l2, some (.int x), l4, l5] (.int x :: st) σ Q := gs_go f_49_35 rfl
theorem f_49_36 : ft 49 36 = some (50, .iload 4, []) := rfl
theorem s_49_36 {d : Nat} {σ : xS} {st : List Value} {Q : xR → xS → Prop} {l0 l1 l2 l3 l5 : Option Value} {x : Int32} : G d 49 36 [l0, l1, l2, l3, some (.int x), l5] st σ Q ↔ G d 49 37 [l0, l1, l2, l3, some (.int x), l5] (.int x :: st) σ Q := gs_go f_49_36 rfl
theorem f_49_37 : ft 49 37 = some (52, .iload 5, []) := rfl
theorem s_49_37 {d : Nat} {σ : xS} {st : List Value} {Q : xR → xS → Prop} {l0 l1 l2 l3 l4 : Option Value} {x : Int32} : G d 49 37 [l0, l1, l2, l3, l4, some (.int x)] st σ Q ↔ G d 49 38 [l0, l1, l2, l3, l4, some (.int x)] (.int x :: st) σ Q := gs_go f_49_37 rfl
theorem f_49_38 : ft 49 38 = some (54, .invokestatic 117, [121, 3, 4, 1048]) := rfl
theorem s_49_38 {d : Nat} {σ : xS} {st : List Value} {Q : xR → xS → Prop} {l0 l1 l2 l3 l4 l5 : Option Value} {a0 : Int32} {a1 : Int32} {a2 : Int32} : G (d + 1) 49 38 [l0, l1, l2, l3, l4, l5] (.int a2 :: .int a1 :: .int a0 :: st) σ Q ↔ xcat st ≤ 8 ∧ Cl d 121 [.int a0, .int a1, .int a2] σ (Gk (d + 1) 49 38 [l0, l1, l2, l3, l4, l5] st Q) := gs_call f_49_38 ((xinv_call (i := 38) (n := 1048) (ls := [l0, l1, l2, l3, l4, l5]) (kind := 4) (σ := σ) (by decide)).trans (xcall_st [.int a2, .int a1, .int a0] rfl (by decide) (show (3 : Nat) ≤ 3 by decide)))
theorem f_49_39 : ft 49 39 = some (57, .ireturn, []) := rfl
theorem s_49_39 {d : Nat} {σ : xS} {ls : xL} {Q : xR → xS → Prop} {x : Int32} : G d 49 39 ls [.int x] σ Q ↔ Q (.inl (some (.int x))) σ := gs_reti f_49_39 rfl
theorem f_50_0 : ft 50 0 = some (0, .iconst 0, []) := rfl
theorem s_50_0 {d : Nat} {σ : xS} {st : List Value} {Q : xR → xS → Prop} {l0 l1 l2 l3 l4 : Option Value} : G d 50 0 [l0, l1, l2, l3, l4] st σ Q ↔ G d 50 1 [l0, l1, l2, l3, l4] (.int (0) :: st) σ Q := gs_go f_50_0 rfl
theorem f_50_1 : ft 50 1 = some (1, .istore_n 1, []) := rfl
theorem s_50_1 {d : Nat} {σ : xS} {st : List Value} {Q : xR → xS → Prop} {l0 l1 l2 l3 l4 : Option Value} {x : Int32} : G d 50 1 [l0, l1, l2, l3, l4] (.int x :: st) σ Q ↔ G d 50 2 [ykl l0, some (.int x), l2, l3, l4] st σ Q := by
  cases l0 with
  | none => exact gs_go f_50_1 rfl
  | some v => cases v <;> exact gs_go f_50_1 rfl
theorem f_50_2 : ft 50 2 = some (2, .iconst 0, []) := rfl
theorem s_50_2 {d : Nat} {σ : xS} {st : List Value} {Q : xR → xS → Prop} {l0 l1 l2 l3 l4 : Option Value} : G d 50 2 [l0, l1, l2, l3, l4] st σ Q ↔ G d 50 3 [l0, l1, l2, l3, l4] (.int (0) :: st) σ Q := gs_go f_50_2 rfl
theorem f_50_3 : ft 50 3 = some (3, .istore_n 2, []) := rfl
theorem s_50_3 {d : Nat} {σ : xS} {st : List Value} {Q : xR → xS → Prop} {l0 l1 l2 l3 l4 : Option Value} {x : Int32} : G d 50 3 [l0, l1, l2, l3, l4] (.int x :: st) σ Q ↔ G d 50 4 [l0, ykl l1, some (.int x), l3, l4] st σ Q := by
  cases l1 with
  | none => exact gs_go f_50_3 rfl
  | some v => cases v <;> exact gs_go f_50_3 rfl
theorem f_50_4 : ft 50 4 = some (4, .iload_n 2, []) := rfl
theorem s_50_4 {d : Nat} {σ : xS} {st : List Value} {Q : xR → xS → Prop} {l0 l1 l3 l4 : Option Value} {x : Int32} : G d 50 4 [l0, l1, some (.int x), l3, l4] st σ Q ↔ G d 50 5 [l0, l1, some (.int x), l3, l4] (.int x :: st) σ Q := gs_go f_50_4 rfl
theorem f_50_5 : ft 50 5 = some (5, .aload_n 0, []) := rfl
theorem s_50_5 {d : Nat} {σ : xS} {st : List Value} {Q : xR → xS → Prop} {l1 l2 l3 l4 : Option Value} {x : Nat} : G d 50 5 [some (.ref x), l1, l2, l3, l4] st σ Q ↔ G d 50 6 [some (.ref x), l1, l2, l3, l4] (.ref x :: st) σ Q := gs_go f_50_5 rfl
theorem f_50_6 : ft 50 6 = some (6, .getfield 69, [4, 12, 0, 169]) := rfl
theorem s_50_6 {d : Nat} {t : yT} {st : List Value} {Q : xR → xS → Prop} {l0 l1 l2 l3 l4 : Option Value} {a : Nat} (ho : yisO 4 a) : G d 50 6 [l0, l1, l2, l3, l4] (.ref a :: st) (yemb t) Q ↔ G d 50 7 [l0, l1, l2, l3, l4] (.int (t.A a 12) :: st) (yemb t) Q := gs_getf (c := 4) (j := 12) (q := .i) f_50_6 ho rfl
theorem f_50_7 : ft 50 7 = some (9, .if_icmp .ge 72, [45]) := rfl
theorem s_50_7 {d : Nat} {σ : xS} {st : List Value} {Q : xR → xS → Prop} {l0 l1 l2 l3 l4 : Option Value} {x y : Int32} : G d 50 7 [l0, l1, l2, l3, l4] (.int y :: .int x :: st) σ Q ↔ if y ≤ x then G d 50 45 [l0, l1, l2, l3, l4] st σ Q else G d 50 8 [l0, l1, l2, l3, l4] st σ Q := gs_if f_50_7 rfl
theorem f_50_8 : ft 50 8 = some (12, .aload_n 0, []) := rfl
theorem s_50_8 {d : Nat} {σ : xS} {st : List Value} {Q : xR → xS → Prop} {l1 l2 l3 l4 : Option Value} {x : Nat} : G d 50 8 [some (.ref x), l1, l2, l3, l4] st σ Q ↔ G d 50 9 [some (.ref x), l1, l2, l3, l4] (.ref x :: st) σ Q := gs_go f_50_8 rfl
theorem f_50_9 : ft 50 9 = some (13, .iload_n 2, []) := rfl
theorem s_50_9 {d : Nat} {σ : xS} {st : List Value} {Q : xR → xS → Prop} {l0 l1 l3 l4 : Option Value} {x : Int32} : G d 50 9 [l0, l1, some (.int x), l3, l4] st σ Q ↔ G d 50 10 [l0, l1, some (.int x), l3, l4] (.int x :: st) σ Q := gs_go f_50_9 rfl
theorem f_50_10 : ft 50 10 = some (14, .invokevirtual 110, [44, 2, 0, 1029]) := rfl
theorem s_50_10 {d : Nat} {t : yT} {st : List Value} {Q : xR → xS → Prop} {l0 l1 l2 l3 l4 : Option Value} {a0 : Nat} {a1 : Int32} (ho : yisO 4 a0) : G (d + 1) 50 10 [l0, l1, l2, l3, l4] (.int a1 :: .ref a0 :: st) (yemb t) Q ↔ xcat st ≤ 8 ∧ Cl d 44 [.ref a0, .int a1] (yemb t) (Gk (d + 1) 50 10 [l0, l1, l2, l3, l4] st Q) := gs_call f_50_10 ((xinv_call (i := 10) (n := 1029) (ls := [l0, l1, l2, l3, l4]) (kind := 0) (σ := yemb t) (by decide)).trans (xcall_vi [.int a1, .ref a0] rfl rfl (show (2 : Nat) ≤ 4 by decide) rfl ho))
theorem f_50_11 : ft 50 11 = some (17, .istore_n 3, []) := rfl
theorem s_50_11 {d : Nat} {σ : xS} {st : List Value} {Q : xR → xS → Prop} {l0 l1 l2 l3 l4 : Option Value} {x : Int32} : G d 50 11 [l0, l1, l2, l3, l4] (.int x :: st) σ Q ↔ G d 50 12 [l0, l1, ykl l2, some (.int x), l4] st σ Q := by
  cases l2 with
  | none => exact gs_go f_50_11 rfl
  | some v => cases v <;> exact gs_go f_50_11 rfl
theorem f_50_12 : ft 50 12 = some (18, .aload_n 0, []) := rfl
theorem s_50_12 {d : Nat} {σ : xS} {st : List Value} {Q : xR → xS → Prop} {l1 l2 l3 l4 : Option Value} {x : Nat} : G d 50 12 [some (.ref x), l1, l2, l3, l4] st σ Q ↔ G d 50 13 [some (.ref x), l1, l2, l3, l4] (.ref x :: st) σ Q := gs_go f_50_12 rfl
theorem f_50_13 : ft 50 13 = some (19, .getfield 33, [4, 7, 0, 156]) := rfl
theorem s_50_13 {d : Nat} {t : yT} {st : List Value} {Q : xR → xS → Prop} {l0 l1 l2 l3 l4 : Option Value} {a : Nat} (ho : yisO 4 a) : G d 50 13 [l0, l1, l2, l3, l4] (.ref a :: st) (yemb t) Q ↔ G d 50 14 [l0, l1, l2, l3, l4] (.ref (a + 8) :: st) (yemb t) Q := gs_getf (c := 4) (j := 7) (q := .c (a + 8)) f_50_13 ho rfl
theorem f_50_14 : ft 50 14 = some (22, .iload_n 2, []) := rfl
theorem s_50_14 {d : Nat} {σ : xS} {st : List Value} {Q : xR → xS → Prop} {l0 l1 l3 l4 : Option Value} {x : Int32} : G d 50 14 [l0, l1, some (.int x), l3, l4] st σ Q ↔ G d 50 15 [l0, l1, some (.int x), l3, l4] (.int x :: st) σ Q := gs_go f_50_14 rfl
theorem f_50_15 : ft 50 15 = some (23, .iaload, []) := rfl
theorem s_50_15 {d : Nat} {t : yT} {st : List Value} {Q : xR → xS → Prop} {l0 l1 l2 l3 l4 : Option Value} {a : Nat} {x : Int32} (ha : yA 0 a) : G d 50 15 [l0, l1, l2, l3, l4] (.int x :: .ref a :: st) (yemb t) Q ↔ yix x (yn a) ∧ G d 50 16 [l0, l1, l2, l3, l4] (.int (t.A a x.toNatClampNeg) :: st) (yemb t) Q := gs_iald f_50_15 ha
theorem f_50_16 : ft 50 16 = some (24, .istore 4, []) := rfl
theorem s_50_16 {d : Nat} {σ : xS} {st : List Value} {Q : xR → xS → Prop} {l0 l1 l2 l3 l4 : Option Value} {x : Int32} : G d 50 16 [l0, l1, l2, l3, l4] (.int x :: st) σ Q ↔ G d 50 17 [l0, l1, l2, ykl l3, some (.int x)] st σ Q := by
  cases l3 with
  | none => exact gs_go f_50_16 rfl
  | some v => cases v <;> exact gs_go f_50_16 rfl
theorem f_50_17 : ft 50 17 = some (26, .iload 4, []) := rfl
theorem s_50_17 {d : Nat} {σ : xS} {st : List Value} {Q : xR → xS → Prop} {l0 l1 l2 l3 : Option Value} {x : Int32} : G d 50 17 [l0, l1, l2, l3, some (.int x)] st σ Q ↔ G d 50 18 [l0, l1, l2, l3, some (.int x)] (.int x :: st) σ Q := gs_go f_50_17 rfl
theorem f_50_18 : ft 50 18 = some (28, .aload_n 0, []) := rfl
theorem s_50_18 {d : Nat} {σ : xS} {st : List Value} {Q : xR → xS → Prop} {l1 l2 l3 l4 : Option Value} {x : Nat} : G d 50 18 [some (.ref x), l1, l2, l3, l4] st σ Q ↔ G d 50 19 [some (.ref x), l1, l2, l3, l4] (.ref x :: st) σ Q := gs_go f_50_18 rfl
theorem f_50_19 : ft 50 19 = some (29, .iload_n 2, []) := rfl
theorem s_50_19 {d : Nat} {σ : xS} {st : List Value} {Q : xR → xS → Prop} {l0 l1 l3 l4 : Option Value} {x : Int32} : G d 50 19 [l0, l1, some (.int x), l3, l4] st σ Q ↔ G d 50 20 [l0, l1, some (.int x), l3, l4] (.int x :: st) σ Q := gs_go f_50_19 rfl
theorem f_50_20 : ft 50 20 = some (30, .invokevirtual 97, [43, 2, 0, 1033]) := rfl
theorem s_50_20 {d : Nat} {t : yT} {st : List Value} {Q : xR → xS → Prop} {l0 l1 l2 l3 l4 : Option Value} {a0 : Nat} {a1 : Int32} (ho : yisO 4 a0) : G (d + 1) 50 20 [l0, l1, l2, l3, l4] (.int a1 :: .ref a0 :: st) (yemb t) Q ↔ xcat st ≤ 8 ∧ Cl d 43 [.ref a0, .int a1] (yemb t) (Gk (d + 1) 50 20 [l0, l1, l2, l3, l4] st Q) := gs_call f_50_20 ((xinv_call (i := 20) (n := 1033) (ls := [l0, l1, l2, l3, l4]) (kind := 0) (σ := yemb t) (by decide)).trans (xcall_vi [.int a1, .ref a0] rfl rfl (show (2 : Nat) ≤ 2 by decide) rfl ho))
theorem f_50_21 : ft 50 21 = some (33, .if_icmp .gt 42, [43]) := rfl
theorem s_50_21 {d : Nat} {σ : xS} {st : List Value} {Q : xR → xS → Prop} {l0 l1 l2 l3 l4 : Option Value} {x y : Int32} : G d 50 21 [l0, l1, l2, l3, l4] (.int y :: .int x :: st) σ Q ↔ if y < x then G d 50 43 [l0, l1, l2, l3, l4] st σ Q else G d 50 22 [l0, l1, l2, l3, l4] st σ Q := gs_if f_50_21 rfl
theorem f_50_22 : ft 50 22 = some (36, .aload_n 0, []) := rfl
theorem s_50_22 {d : Nat} {σ : xS} {st : List Value} {Q : xR → xS → Prop} {l1 l2 l3 l4 : Option Value} {x : Nat} : G d 50 22 [some (.ref x), l1, l2, l3, l4] st σ Q ↔ G d 50 23 [some (.ref x), l1, l2, l3, l4] (.ref x :: st) σ Q := gs_go f_50_22 rfl
theorem f_50_23 : ft 50 23 = some (37, .iload 4, []) := rfl
theorem s_50_23 {d : Nat} {σ : xS} {st : List Value} {Q : xR → xS → Prop} {l0 l1 l2 l3 : Option Value} {x : Int32} : G d 50 23 [l0, l1, l2, l3, some (.int x)] st σ Q ↔ G d 50 24 [l0, l1, l2, l3, some (.int x)] (.int x :: st) σ Q := gs_go f_50_23 rfl
theorem f_50_24 : ft 50 24 = some (39, .invokevirtual 101, [46, 2, 0, 1037]) := rfl
theorem s_50_24 {d : Nat} {t : yT} {st : List Value} {Q : xR → xS → Prop} {l0 l1 l2 l3 l4 : Option Value} {a0 : Nat} {a1 : Int32} (ho : yisO 4 a0) : G (d + 1) 50 24 [l0, l1, l2, l3, l4] (.int a1 :: .ref a0 :: st) (yemb t) Q ↔ xcat st ≤ 8 ∧ Cl d 46 [.ref a0, .int a1] (yemb t) (Gk (d + 1) 50 24 [l0, l1, l2, l3, l4] st Q) := gs_call f_50_24 ((xinv_call (i := 24) (n := 1037) (ls := [l0, l1, l2, l3, l4]) (kind := 0) (σ := yemb t) (by decide)).trans (xcall_vi [.int a1, .ref a0] rfl rfl (show (2 : Nat) ≤ 2 by decide) rfl ho))
theorem f_50_25 : ft 50 25 = some (42, .ifCond .eq 27, [41]) := rfl
theorem s_50_25 {d : Nat} {σ : xS} {st : List Value} {Q : xR → xS → Prop} {l0 l1 l2 l3 l4 : Option Value} {x : Int32} : G d 50 25 [l0, l1, l2, l3, l4] (.int x :: st) σ Q ↔ if x = 0 then G d 50 41 [l0, l1, l2, l3, l4] st σ Q else G d 50 26 [l0, l1, l2, l3, l4] st σ Q := gs_if f_50_25 rfl
theorem f_50_26 : ft 50 26 = some (45, .iload_n 1, []) := rfl
theorem s_50_26 {d : Nat} {σ : xS} {st : List Value} {Q : xR → xS → Prop} {l0 l2 l3 l4 : Option Value} {x : Int32} : G d 50 26 [l0, some (.int x), l2, l3, l4] st σ Q ↔ G d 50 27 [l0, some (.int x), l2, l3, l4] (.int x :: st) σ Q := gs_go f_50_26 rfl
theorem f_50_27 : ft 50 27 = some (46, .aload_n 0, []) := rfl
theorem s_50_27 {d : Nat} {σ : xS} {st : List Value} {Q : xR → xS → Prop} {l1 l2 l3 l4 : Option Value} {x : Nat} : G d 50 27 [some (.ref x), l1, l2, l3, l4] st σ Q ↔ G d 50 28 [some (.ref x), l1, l2, l3, l4] (.ref x :: st) σ Q := gs_go f_50_27 rfl
theorem f_50_28 : ft 50 28 = some (47, .aload_n 0, []) := rfl
theorem s_50_28 {d : Nat} {σ : xS} {st : List Value} {Q : xR → xS → Prop} {l1 l2 l3 l4 : Option Value} {x : Nat} : G d 50 28 [some (.ref x), l1, l2, l3, l4] st σ Q ↔ G d 50 29 [some (.ref x), l1, l2, l3, l4] (.ref x :: st) σ Q := gs_go f_50_28 rfl
theorem f_50_29 : ft 50 29 = some (48, .getfield 27, [4, 5, 0, 152]) := rfl
theorem s_50_29 {d : Nat} {t : yT} {st : List Value} {Q : xR → xS → Prop} {l0 l1 l2 l3 l4 : Option Value} {a : Nat} (ho : yisO 4 a) : G d 50 29 [l0, l1, l2, l3, l4] (.ref a :: st) (yemb t) Q ↔ G d 50 30 [l0, l1, l2, l3, l4] (.ref (a + 6) :: st) (yemb t) Q := gs_getf (c := 4) (j := 5) (q := .c (a + 6)) f_50_29 ho rfl
theorem f_50_30 : ft 50 30 = some (51, .iload 4, []) := rfl
theorem s_50_30 {d : Nat} {σ : xS} {st : List Value} {Q : xR → xS → Prop} {l0 l1 l2 l3 : Option Value} {x : Int32} : G d 50 30 [l0, l1, l2, l3, some (.int x)] st σ Q ↔ G d 50 31 [l0, l1, l2, l3, some (.int x)] (.int x :: st) σ Q := gs_go f_50_30 rfl
theorem f_50_31 : ft 50 31 = some (53, .iaload, []) := rfl
theorem s_50_31 {d : Nat} {t : yT} {st : List Value} {Q : xR → xS → Prop} {l0 l1 l2 l3 l4 : Option Value} {a : Nat} {x : Int32} (ha : yA 0 a) : G d 50 31 [l0, l1, l2, l3, l4] (.int x :: .ref a :: st) (yemb t) Q ↔ yix x (yn a) ∧ G d 50 32 [l0, l1, l2, l3, l4] (.int (t.A a x.toNatClampNeg) :: st) (yemb t) Q := gs_iald f_50_31 ha
theorem f_50_32 : ft 50 32 = some (54, .aload_n 0, []) := rfl
theorem s_50_32 {d : Nat} {σ : xS} {st : List Value} {Q : xR → xS → Prop} {l1 l2 l3 l4 : Option Value} {x : Nat} : G d 50 32 [some (.ref x), l1, l2, l3, l4] st σ Q ↔ G d 50 33 [some (.ref x), l1, l2, l3, l4] (.ref x :: st) σ Q := gs_go f_50_32 rfl
theorem f_50_33 : ft 50 33 = some (55, .getfield 36, [4, 8, 0, 158]) := rfl
theorem s_50_33 {d : Nat} {t : yT} {st : List Value} {Q : xR → xS → Prop} {l0 l1 l2 l3 l4 : Option Value} {a : Nat} (ho : yisO 4 a) : G d 50 33 [l0, l1, l2, l3, l4] (.ref a :: st) (yemb t) Q ↔ G d 50 34 [l0, l1, l2, l3, l4] (.ref (a + 9) :: st) (yemb t) Q := gs_getf (c := 4) (j := 8) (q := .c (a + 9)) f_50_33 ho rfl
theorem f_50_34 : ft 50 34 = some (58, .iload_n 2, []) := rfl
theorem s_50_34 {d : Nat} {σ : xS} {st : List Value} {Q : xR → xS → Prop} {l0 l1 l3 l4 : Option Value} {x : Int32} : G d 50 34 [l0, l1, some (.int x), l3, l4] st σ Q ↔ G d 50 35 [l0, l1, some (.int x), l3, l4] (.int x :: st) σ Q := gs_go f_50_34 rfl
theorem f_50_35 : ft 50 35 = some (59, .iaload, []) := rfl
theorem s_50_35 {d : Nat} {t : yT} {st : List Value} {Q : xR → xS → Prop} {l0 l1 l2 l3 l4 : Option Value} {a : Nat} {x : Int32} (ha : yA 0 a) : G d 50 35 [l0, l1, l2, l3, l4] (.int x :: .ref a :: st) (yemb t) Q ↔ yix x (yn a) ∧ G d 50 36 [l0, l1, l2, l3, l4] (.int (t.A a x.toNatClampNeg) :: st) (yemb t) Q := gs_iald f_50_35 ha
theorem f_50_36 : ft 50 36 = some (60, .iload_n 3, []) := rfl
theorem s_50_36 {d : Nat} {σ : xS} {st : List Value} {Q : xR → xS → Prop} {l0 l1 l2 l4 : Option Value} {x : Int32} : G d 50 36 [l0, l1, l2, some (.int x), l4] st σ Q ↔ G d 50 37 [l0, l1, l2, some (.int x), l4] (.int x :: st) σ Q := gs_go f_50_36 rfl
theorem f_50_37 : ft 50 37 = some (61, .invokestatic 113, [49, 3, 1, 1045]) := rfl
theorem s_50_37 {d : Nat} {σ : xS} {st : List Value} {Q : xR → xS → Prop} {l0 l1 l2 l3 l4 : Option Value} {a0 : Int32} {a1 : Int32} {a2 : Int32} : G (d + 1) 50 37 [l0, l1, l2, l3, l4] (.int a2 :: .int a1 :: .int a0 :: st) σ Q ↔ xcat st ≤ 8 ∧ Cl d 49 [.int a0, .int a1, .int a2] σ (Gk (d + 1) 50 37 [l0, l1, l2, l3, l4] st Q) := gs_call f_50_37 ((xinv_call (i := 37) (n := 1045) (ls := [l0, l1, l2, l3, l4]) (kind := 1) (σ := σ) (by decide)).trans (xcall_st [.int a2, .int a1, .int a0] rfl (by decide) (show (3 : Nat) ≤ 6 by decide)))
theorem f_50_38 : ft 50 38 = some (64, .invokevirtual 104, [47, 2, 0, 1041]) := rfl
theorem s_50_38 {d : Nat} {t : yT} {st : List Value} {Q : xR → xS → Prop} {l0 l1 l2 l3 l4 : Option Value} {a0 : Nat} {a1 : Int32} (ho : yisO 4 a0) : G (d + 1) 50 38 [l0, l1, l2, l3, l4] (.int a1 :: .ref a0 :: st) (yemb t) Q ↔ xcat st ≤ 8 ∧ Cl d 47 [.ref a0, .int a1] (yemb t) (Gk (d + 1) 50 38 [l0, l1, l2, l3, l4] st Q) := gs_call f_50_38 ((xinv_call (i := 38) (n := 1041) (ls := [l0, l1, l2, l3, l4]) (kind := 0) (σ := yemb t) (by decide)).trans (xcall_vi [.int a1, .ref a0] rfl rfl (show (2 : Nat) ≤ 2 by decide) rfl ho))
theorem f_50_39 : ft 50 39 = some (67, .iadd, []) := rfl
theorem s_50_39 {d : Nat} {σ : xS} {st : List Value} {Q : xR → xS → Prop} {l0 l1 l2 l3 l4 : Option Value} {x y : Int32} : G d 50 39 [l0, l1, l2, l3, l4] (.int y :: .int x :: st) σ Q ↔ G d 50 40 [l0, l1, l2, l3, l4] (.int (x + y) :: st) σ Q := gs_go f_50_39 rfl
theorem f_50_40 : ft 50 40 = some (68, .istore_n 1, []) := rfl
theorem s_50_40 {d : Nat} {σ : xS} {st : List Value} {Q : xR → xS → Prop} {l0 l1 l2 l3 l4 : Option Value} {x : Int32} : G d 50 40 [l0, l1, l2, l3, l4] (.int x :: st) σ Q ↔ G d 50 41 [ykl l0, some (.int x), l2, l3, l4] st σ Q := by
  cases l0 with
  | none => exact gs_go f_50_40 rfl
  | some v => cases v <;> exact gs_go f_50_40 rfl
theorem f_50_41 : ft 50 41 = some (69, .iinc 4 1, []) := rfl
theorem s_50_41 {d : Nat} {σ : xS} {st : List Value} {Q : xR → xS → Prop} {l0 l1 l2 l3 : Option Value} {x : Int32} : G d 50 41 [l0, l1, l2, l3, some (.int x)] st σ Q ↔ G d 50 42 [l0, l1, l2, ykl l3, some (.int (x + 1))] st σ Q := by
  cases l3 with
  | none => exact gs_go f_50_41 rfl
  | some v => cases v <;> exact gs_go f_50_41 rfl
theorem f_50_42 : ft 50 42 = some (72, .goto (-46), [17]) := rfl
theorem s_50_42 {d : Nat} {σ : xS} {st : List Value} {Q : xR → xS → Prop} {l0 l1 l2 l3 l4 : Option Value} : G d 50 42 [l0, l1, l2, l3, l4] st σ Q ↔ G d 50 17 [l0, l1, l2, l3, l4] st σ Q := gs_go f_50_42 rfl
theorem f_50_43 : ft 50 43 = some (75, .iinc 2 1, []) := rfl
theorem s_50_43 {d : Nat} {σ : xS} {st : List Value} {Q : xR → xS → Prop} {l0 l1 l3 l4 : Option Value} {x : Int32} : G d 50 43 [l0, l1, some (.int x), l3, l4] st σ Q ↔ G d 50 44 [l0, ykl l1, some (.int (x + 1)), l3, l4] st σ Q := by
  cases l1 with
  | none => exact gs_go f_50_43 rfl
  | some v => cases v <;> exact gs_go f_50_43 rfl
theorem f_50_44 : ft 50 44 = some (78, .goto (-74), [4]) := rfl
theorem s_50_44 {d : Nat} {σ : xS} {st : List Value} {Q : xR → xS → Prop} {l0 l1 l2 l3 l4 : Option Value} : G d 50 44 [l0, l1, l2, l3, l4] st σ Q ↔ G d 50 4 [l0, l1, l2, l3, l4] st σ Q := gs_go f_50_44 rfl
theorem f_50_45 : ft 50 45 = some (81, .iload_n 1, []) := rfl
theorem s_50_45 {d : Nat} {σ : xS} {st : List Value} {Q : xR → xS → Prop} {l0 l2 l3 l4 : Option Value} {x : Int32} : G d 50 45 [l0, some (.int x), l2, l3, l4] st σ Q ↔ G d 50 46 [l0, some (.int x), l2, l3, l4] (.int x :: st) σ Q := gs_go f_50_45 rfl
theorem f_50_46 : ft 50 46 = some (82, .ireturn, []) := rfl
theorem s_50_46 {d : Nat} {σ : xS} {ls : xL} {Q : xR → xS → Prop} {x : Int32} : G d 50 46 ls [.int x] σ Q ↔ Q (.inl (some (.int x))) σ := gs_reti f_50_46 rfl
theorem f_52_0 : ft 52 0 = some (0, .aload_n 0, []) := rfl
theorem s_52_0 {d : Nat} {σ : xS} {st : List Value} {Q : xR → xS → Prop} {l1 : Option Value} {x : Nat} : G d 52 0 [some (.ref x), l1] st σ Q ↔ G d 52 1 [some (.ref x), l1] (.ref x :: st) σ Q := gs_go f_52_0 rfl
theorem f_52_1 : ft 52 1 = some (1, .aload_n 1, []) := rfl
theorem s_52_1 {d : Nat} {σ : xS} {st : List Value} {Q : xR → xS → Prop} {l0 : Option Value} {x : Nat} : G d 52 1 [l0, some (.ref x)] st σ Q ↔ G d 52 2 [l0, some (.ref x)] (.ref x :: st) σ Q := gs_go f_52_1 rfl
theorem f_52_2 : ft 52 2 = some (2, .invokevirtual 125, [53, 2, 0, 982]) := rfl
theorem s_52_2 {d : Nat} {t : yT} {st : List Value} {Q : xR → xS → Prop} {l0 l1 : Option Value} {a0 : Nat} {a1 : Nat} (ho : yisO 4 a0) : G (d + 1) 52 2 [l0, l1] (.ref a1 :: .ref a0 :: st) (yemb t) Q ↔ xcat st ≤ 8 ∧ Cl d 53 [.ref a0, .ref a1] (yemb t) (Gk (d + 1) 52 2 [l0, l1] st Q) := gs_call f_52_2 ((xinv_call (i := 2) (n := 982) (ls := [l0, l1]) (kind := 0) (σ := yemb t) (by decide)).trans (xcall_vi [.ref a1, .ref a0] rfl rfl (show (2 : Nat) ≤ 3 by decide) rfl ho))
theorem f_52_3 : ft 52 3 = some (5, .aload_n 0, []) := rfl
theorem s_52_3 {d : Nat} {σ : xS} {st : List Value} {Q : xR → xS → Prop} {l1 : Option Value} {x : Nat} : G d 52 3 [some (.ref x), l1] st σ Q ↔ G d 52 4 [some (.ref x), l1] (.ref x :: st) σ Q := gs_go f_52_3 rfl
theorem f_52_4 : ft 52 4 = some (6, .invokevirtual 129, [54, 1, 0, 1008]) := rfl
theorem s_52_4 {d : Nat} {t : yT} {st : List Value} {Q : xR → xS → Prop} {l0 l1 : Option Value} {a0 : Nat} (ho : yisO 4 a0) : G (d + 1) 52 4 [l0, l1] (.ref a0 :: st) (yemb t) Q ↔ xcat st ≤ 8 ∧ Cl d 54 [.ref a0] (yemb t) (Gk (d + 1) 52 4 [l0, l1] st Q) := gs_call f_52_4 ((xinv_call (i := 4) (n := 1008) (ls := [l0, l1]) (kind := 0) (σ := yemb t) (by decide)).trans (xcall_vi [.ref a0] rfl rfl (show (1 : Nat) ≤ 3 by decide) rfl ho))
theorem f_52_5 : ft 52 5 = some (9, .aload_n 0, []) := rfl
theorem s_52_5 {d : Nat} {σ : xS} {st : List Value} {Q : xR → xS → Prop} {l1 : Option Value} {x : Nat} : G d 52 5 [some (.ref x), l1] st σ Q ↔ G d 52 6 [some (.ref x), l1] (.ref x :: st) σ Q := gs_go f_52_5 rfl
theorem f_52_6 : ft 52 6 = some (10, .dup, []) := rfl
theorem s_52_6 {d : Nat} {σ : xS} {st : List Value} {Q : xR → xS → Prop} {l0 l1 : Option Value} {x : Nat} : G d 52 6 [l0, l1] (.ref x :: st) σ Q ↔ G d 52 7 [l0, l1] (.ref x :: .ref x :: st) σ Q := gs_go f_52_6 rfl
theorem s_52_6i {d : Nat} {σ : xS} {st : List Value} {Q : xR → xS → Prop} {l0 l1 : Option Value} {x : Int32} : G d 52 6 [l0, l1] (.int x :: st) σ Q ↔ G d 52 7 [l0, l1] (.int x :: .int x :: st) σ Q := gs_go f_52_6 rfl
theorem f_52_7 : ft 52 7 = some (11, .getfield 56, [4, 13, 0, 172]) := rfl
theorem s_52_7 {d : Nat} {t : yT} {st : List Value} {Q : xR → xS → Prop} {l0 l1 : Option Value} {a : Nat} (ho : yisO 4 a) : G d 52 7 [l0, l1] (.ref a :: st) (yemb t) Q ↔ G d 52 8 [l0, l1] (.int (t.A a 13) :: st) (yemb t) Q := gs_getf (c := 4) (j := 13) (q := .i) f_52_7 ho rfl
theorem f_52_8 : ft 52 8 = some (14, .iconst 1, []) := rfl
theorem s_52_8 {d : Nat} {σ : xS} {st : List Value} {Q : xR → xS → Prop} {l0 l1 : Option Value} : G d 52 8 [l0, l1] st σ Q ↔ G d 52 9 [l0, l1] (.int (1) :: st) σ Q := gs_go f_52_8 rfl
theorem f_52_9 : ft 52 9 = some (15, .iadd, []) := rfl
theorem s_52_9 {d : Nat} {σ : xS} {st : List Value} {Q : xR → xS → Prop} {l0 l1 : Option Value} {x y : Int32} : G d 52 9 [l0, l1] (.int y :: .int x :: st) σ Q ↔ G d 52 10 [l0, l1] (.int (x + y) :: st) σ Q := gs_go f_52_9 rfl
theorem f_52_10 : ft 52 10 = some (16, .putfield 56, [4, 13, 0, 172]) := rfl
theorem s_52_10 {d : Nat} {t : yT} {st : List Value} {Q : xR → xS → Prop} {l0 l1 : Option Value} {a : Nat} {x : Int32} (ho : yisO 4 a) : G d 52 10 [l0, l1] (.int x :: .ref a :: st) (yemb t) Q ↔ G d 52 11 [l0, l1] st (yemb (t.s1 a 13 x)) Q := gs_putI (c := 4) (j := 13) f_52_10 (fun _ => rfl) rfl rfl ho
theorem f_52_11 : ft 52 11 = some (19, .aload_n 0, []) := rfl
theorem s_52_11 {d : Nat} {σ : xS} {st : List Value} {Q : xR → xS → Prop} {l1 : Option Value} {x : Nat} : G d 52 11 [some (.ref x), l1] st σ Q ↔ G d 52 12 [some (.ref x), l1] (.ref x :: st) σ Q := gs_go f_52_11 rfl
theorem f_52_12 : ft 52 12 = some (20, .dup, []) := rfl
theorem s_52_12 {d : Nat} {σ : xS} {st : List Value} {Q : xR → xS → Prop} {l0 l1 : Option Value} {x : Nat} : G d 52 12 [l0, l1] (.ref x :: st) σ Q ↔ G d 52 13 [l0, l1] (.ref x :: .ref x :: st) σ Q := gs_go f_52_12 rfl
theorem s_52_12i {d : Nat} {σ : xS} {st : List Value} {Q : xR → xS → Prop} {l0 l1 : Option Value} {x : Int32} : G d 52 12 [l0, l1] (.int x :: st) σ Q ↔ G d 52 13 [l0, l1] (.int x :: .int x :: st) σ Q := gs_go f_52_12 rfl
theorem f_52_13 : ft 52 13 = some (21, .getfield 59, [4, 14, 0, 174]) := rfl
theorem s_52_13 {d : Nat} {t : yT} {st : List Value} {Q : xR → xS → Prop} {l0 l1 : Option Value} {a : Nat} (ho : yisO 4 a) : G d 52 13 [l0, l1] (.ref a :: st) (yemb t) Q ↔ G d 52 14 [l0, l1] (.int (t.A a 14) :: st) (yemb t) Q := gs_getf (c := 4) (j := 14) (q := .i) f_52_13 ho rfl
theorem f_52_14 : ft 52 14 = some (24, .aload_n 0, []) := rfl
theorem s_52_14 {d : Nat} {σ : xS} {st : List Value} {Q : xR → xS → Prop} {l1 : Option Value} {x : Nat} : G d 52 14 [some (.ref x), l1] st σ Q ↔ G d 52 15 [some (.ref x), l1] (.ref x :: st) σ Q := gs_go f_52_14 rfl
theorem f_52_15 : ft 52 15 = some (25, .invokevirtual 132, [50, 1, 0, 1025]) := rfl
theorem s_52_15 {d : Nat} {t : yT} {st : List Value} {Q : xR → xS → Prop} {l0 l1 : Option Value} {a0 : Nat} (ho : yisO 4 a0) : G (d + 1) 52 15 [l0, l1] (.ref a0 :: st) (yemb t) Q ↔ xcat st ≤ 8 ∧ Cl d 50 [.ref a0] (yemb t) (Gk (d + 1) 52 15 [l0, l1] st Q) := gs_call f_52_15 ((xinv_call (i := 15) (n := 1025) (ls := [l0, l1]) (kind := 0) (σ := yemb t) (by decide)).trans (xcall_vi [.ref a0] rfl rfl (show (1 : Nat) ≤ 5 by decide) rfl ho))
theorem f_52_16 : ft 52 16 = some (28, .iadd, []) := rfl
theorem s_52_16 {d : Nat} {σ : xS} {st : List Value} {Q : xR → xS → Prop} {l0 l1 : Option Value} {x y : Int32} : G d 52 16 [l0, l1] (.int y :: .int x :: st) σ Q ↔ G d 52 17 [l0, l1] (.int (x + y) :: st) σ Q := gs_go f_52_16 rfl
theorem f_52_17 : ft 52 17 = some (29, .putfield 59, [4, 14, 0, 174]) := rfl
theorem s_52_17 {d : Nat} {t : yT} {st : List Value} {Q : xR → xS → Prop} {l0 l1 : Option Value} {a : Nat} {x : Int32} (ho : yisO 4 a) : G d 52 17 [l0, l1] (.int x :: .ref a :: st) (yemb t) Q ↔ G d 52 18 [l0, l1] st (yemb (t.s1 a 14 x)) Q := gs_putI (c := 4) (j := 14) f_52_17 (fun _ => rfl) rfl rfl ho
theorem f_52_18 : ft 52 18 = some (32, .return_, []) := rfl
theorem s_52_18 {d : Nat} {σ : xS} {ls : xL} {Q : xR → xS → Prop} : G d 52 18 ls [] σ Q ↔ Q (.inl none) σ := gs_ret f_52_18 rfl
theorem f_53_0 : ft 53 0 = some (0, .aload_n 1, []) := rfl
theorem s_53_0 {d : Nat} {σ : xS} {st : List Value} {Q : xR → xS → Prop} {l0 l2 : Option Value} {x : Nat} : G d 53 0 [l0, some (.ref x), l2] st σ Q ↔ G d 53 1 [l0, some (.ref x), l2] (.ref x :: st) σ Q := gs_go f_53_0 rfl
theorem f_53_1 : ft 53 1 = some (1, .aload_n 0, []) := rfl
theorem s_53_1 {d : Nat} {σ : xS} {st : List Value} {Q : xR → xS → Prop} {l1 l2 : Option Value} {x : Nat} : G d 53 1 [some (.ref x), l1, l2] st σ Q ↔ G d 53 2 [some (.ref x), l1, l2] (.ref x :: st) σ Q := gs_go f_53_1 rfl
theorem f_53_2 : ft 53 2 = some (2, .getfield 66, [4, 16, 0, 178]) := rfl
theorem s_53_2 {d : Nat} {t : yT} {st : List Value} {Q : xR → xS → Prop} {l0 l1 l2 : Option Value} {a : Nat} (ho : yisO 4 a) : G d 53 2 [l0, l1, l2] (.ref a :: st) (yemb t) Q ↔ G d 53 3 [l0, l1, l2] (.ref (t.R a) :: st) (yemb t) Q := gs_getf (c := 4) (j := 16) (q := .m) f_53_2 ho rfl
theorem f_53_3 : ft 53 3 = some (5, .aload_n 0, []) := rfl
theorem s_53_3 {d : Nat} {σ : xS} {st : List Value} {Q : xR → xS → Prop} {l1 l2 : Option Value} {x : Nat} : G d 53 3 [some (.ref x), l1, l2] st σ Q ↔ G d 53 4 [some (.ref x), l1, l2] (.ref x :: st) σ Q := gs_go f_53_3 rfl
theorem f_53_4 : ft 53 4 = some (6, .getfield 53, [4, 11, 0, 165]) := rfl
theorem s_53_4 {d : Nat} {t : yT} {st : List Value} {Q : xR → xS → Prop} {l0 l1 l2 : Option Value} {a : Nat} (ho : yisO 4 a) : G d 53 4 [l0, l1, l2] (.ref a :: st) (yemb t) Q ↔ G d 53 5 [l0, l1, l2] (.int (t.A a 11) :: st) (yemb t) Q := gs_getf (c := 4) (j := 11) (q := .i) f_53_4 ho rfl
theorem f_53_5 : ft 53 5 = some (9, .invokevirtual 136, [1, 3, 0, 986]) := rfl
theorem s_53_5 {d : Nat} {t : yT} {st : List Value} {Q : xR → xS → Prop} {l0 l1 l2 : Option Value} {a0 : Nat} {a1 : Nat} {a2 : Int32} (ho : yisO 0 a0) : G (d + 1) 53 5 [l0, l1, l2] (.int a2 :: .ref a1 :: .ref a0 :: st) (yemb t) Q ↔ xcat st ≤ 8 ∧ Cl d 1 [.ref a0, .ref a1, .int a2] (yemb t) (Gk (d + 1) 53 5 [l0, l1, l2] st Q) := gs_call f_53_5 ((xinv_call (i := 5) (n := 986) (ls := [l0, l1, l2]) (kind := 0) (σ := yemb t) (by decide)).trans (xcall_vi [.int a2, .ref a1, .ref a0] rfl rfl (show (3 : Nat) ≤ 3 by decide) rfl ho))
theorem f_53_6 : ft 53 6 = some (12, .iconst 0, []) := rfl
theorem s_53_6 {d : Nat} {σ : xS} {st : List Value} {Q : xR → xS → Prop} {l0 l1 l2 : Option Value} : G d 53 6 [l0, l1, l2] st σ Q ↔ G d 53 7 [l0, l1, l2] (.int (0) :: st) σ Q := gs_go f_53_6 rfl
theorem f_53_7 : ft 53 7 = some (13, .istore_n 2, []) := rfl
theorem s_53_7 {d : Nat} {σ : xS} {st : List Value} {Q : xR → xS → Prop} {l0 l1 l2 : Option Value} {x : Int32} : G d 53 7 [l0, l1, l2] (.int x :: st) σ Q ↔ G d 53 8 [l0, ykl l1, some (.int x)] st σ Q := by
  cases l1 with
  | none => exact gs_go f_53_7 rfl
  | some v => cases v <;> exact gs_go f_53_7 rfl
theorem f_53_8 : ft 53 8 = some (14, .iload_n 2, []) := rfl
theorem s_53_8 {d : Nat} {σ : xS} {st : List Value} {Q : xR → xS → Prop} {l0 l1 : Option Value} {x : Int32} : G d 53 8 [l0, l1, some (.int x)] st σ Q ↔ G d 53 9 [l0, l1, some (.int x)] (.int x :: st) σ Q := gs_go f_53_8 rfl
theorem f_53_9 : ft 53 9 = some (15, .aload_n 0, []) := rfl
theorem s_53_9 {d : Nat} {σ : xS} {st : List Value} {Q : xR → xS → Prop} {l1 l2 : Option Value} {x : Nat} : G d 53 9 [some (.ref x), l1, l2] st σ Q ↔ G d 53 10 [some (.ref x), l1, l2] (.ref x :: st) σ Q := gs_go f_53_9 rfl
theorem f_53_10 : ft 53 10 = some (16, .getfield 46, [4, 9, 0, 160]) := rfl
theorem s_53_10 {d : Nat} {t : yT} {st : List Value} {Q : xR → xS → Prop} {l0 l1 l2 : Option Value} {a : Nat} (ho : yisO 4 a) : G d 53 10 [l0, l1, l2] (.ref a :: st) (yemb t) Q ↔ G d 53 11 [l0, l1, l2] (.int (t.A a 9) :: st) (yemb t) Q := gs_getf (c := 4) (j := 9) (q := .i) f_53_10 ho rfl
theorem f_53_11 : ft 53 11 = some (19, .if_icmp .ge 25, [24]) := rfl
theorem s_53_11 {d : Nat} {σ : xS} {st : List Value} {Q : xR → xS → Prop} {l0 l1 l2 : Option Value} {x y : Int32} : G d 53 11 [l0, l1, l2] (.int y :: .int x :: st) σ Q ↔ if y ≤ x then G d 53 24 [l0, l1, l2] st σ Q else G d 53 12 [l0, l1, l2] st σ Q := gs_if f_53_11 rfl
theorem f_53_12 : ft 53 12 = some (22, .aload_n 0, []) := rfl
theorem s_53_12 {d : Nat} {σ : xS} {st : List Value} {Q : xR → xS → Prop} {l1 l2 : Option Value} {x : Nat} : G d 53 12 [some (.ref x), l1, l2] st σ Q ↔ G d 53 13 [some (.ref x), l1, l2] (.ref x :: st) σ Q := gs_go f_53_12 rfl
theorem f_53_13 : ft 53 13 = some (23, .getfield 15, [4, 1, 0, 144]) := rfl
theorem s_53_13 {d : Nat} {t : yT} {st : List Value} {Q : xR → xS → Prop} {l0 l1 l2 : Option Value} {a : Nat} (ho : yisO 4 a) : G d 53 13 [l0, l1, l2] (.ref a :: st) (yemb t) Q ↔ G d 53 14 [l0, l1, l2] (.ref (a + 2) :: st) (yemb t) Q := gs_getf (c := 4) (j := 1) (q := .c (a + 2)) f_53_13 ho rfl
theorem f_53_14 : ft 53 14 = some (26, .iload_n 2, []) := rfl
theorem s_53_14 {d : Nat} {σ : xS} {st : List Value} {Q : xR → xS → Prop} {l0 l1 : Option Value} {x : Int32} : G d 53 14 [l0, l1, some (.int x)] st σ Q ↔ G d 53 15 [l0, l1, some (.int x)] (.int x :: st) σ Q := gs_go f_53_14 rfl
theorem f_53_15 : ft 53 15 = some (27, .aload_n 1, []) := rfl
theorem s_53_15 {d : Nat} {σ : xS} {st : List Value} {Q : xR → xS → Prop} {l0 l2 : Option Value} {x : Nat} : G d 53 15 [l0, some (.ref x), l2] st σ Q ↔ G d 53 16 [l0, some (.ref x), l2] (.ref x :: st) σ Q := gs_go f_53_15 rfl
theorem f_53_16 : ft 53 16 = some (28, .aload_n 0, []) := rfl
theorem s_53_16 {d : Nat} {σ : xS} {st : List Value} {Q : xR → xS → Prop} {l1 l2 : Option Value} {x : Nat} : G d 53 16 [some (.ref x), l1, l2] st σ Q ↔ G d 53 17 [some (.ref x), l1, l2] (.ref x :: st) σ Q := gs_go f_53_16 rfl
theorem f_53_17 : ft 53 17 = some (29, .getfield 9, [4, 0, 0, 142]) := rfl
theorem s_53_17 {d : Nat} {t : yT} {st : List Value} {Q : xR → xS → Prop} {l0 l1 l2 : Option Value} {a : Nat} (ho : yisO 4 a) : G d 53 17 [l0, l1, l2] (.ref a :: st) (yemb t) Q ↔ G d 53 18 [l0, l1, l2] (.ref (a + 1) :: st) (yemb t) Q := gs_getf (c := 4) (j := 0) (q := .c (a + 1)) f_53_17 ho rfl
theorem f_53_18 : ft 53 18 = some (32, .iload_n 2, []) := rfl
theorem s_53_18 {d : Nat} {σ : xS} {st : List Value} {Q : xR → xS → Prop} {l0 l1 : Option Value} {x : Int32} : G d 53 18 [l0, l1, some (.int x)] st σ Q ↔ G d 53 19 [l0, l1, some (.int x)] (.int x :: st) σ Q := gs_go f_53_18 rfl
theorem f_53_19 : ft 53 19 = some (33, .iaload, []) := rfl
theorem s_53_19 {d : Nat} {t : yT} {st : List Value} {Q : xR → xS → Prop} {l0 l1 l2 : Option Value} {a : Nat} {x : Int32} (ha : yA 0 a) : G d 53 19 [l0, l1, l2] (.int x :: .ref a :: st) (yemb t) Q ↔ yix x (yn a) ∧ G d 53 20 [l0, l1, l2] (.int (t.A a x.toNatClampNeg) :: st) (yemb t) Q := gs_iald f_53_19 ha
theorem f_53_20 : ft 53 20 = some (34, .invokevirtual 120, [2, 2, 0, 991]) := rfl
theorem s_53_20 {d : Nat} {t : yT} {st : List Value} {Q : xR → xS → Prop} {l0 l1 l2 : Option Value} {a0 : Nat} {a1 : Int32} (ho : yisO 0 a0) : G (d + 1) 53 20 [l0, l1, l2] (.int a1 :: .ref a0 :: st) (yemb t) Q ↔ xcat st ≤ 8 ∧ Cl d 2 [.ref a0, .int a1] (yemb t) (Gk (d + 1) 53 20 [l0, l1, l2] st Q) := gs_call f_53_20 ((xinv_call (i := 20) (n := 991) (ls := [l0, l1, l2]) (kind := 0) (σ := yemb t) (by decide)).trans (xcall_vi [.int a1, .ref a0] rfl rfl (show (2 : Nat) ≤ 6 by decide) rfl ho))
theorem f_53_21 : ft 53 21 = some (37, .iastore, []) := rfl
theorem s_53_21 {d : Nat} {t : yT} {st : List Value} {Q : xR → xS → Prop} {l0 l1 l2 : Option Value} {a : Nat} {x v : Int32} (ha : yA 0 a) : G d 53 21 [l0, l1, l2] (.int v :: .int x :: .ref a :: st) (yemb t) Q ↔ yix x (yn a) ∧ G d 53 22 [l0, l1, l2] st (yemb (t.s1 a x.toNatClampNeg v)) Q := gs_iast f_53_21 ha
theorem f_53_22 : ft 53 22 = some (38, .iinc 2 1, []) := rfl
theorem s_53_22 {d : Nat} {σ : xS} {st : List Value} {Q : xR → xS → Prop} {l0 l1 : Option Value} {x : Int32} : G d 53 22 [l0, l1, some (.int x)] st σ Q ↔ G d 53 23 [l0, ykl l1, some (.int (x + 1))] st σ Q := by
  cases l1 with
  | none => exact gs_go f_53_22 rfl
  | some v => cases v <;> exact gs_go f_53_22 rfl
theorem f_53_23 : ft 53 23 = some (41, .goto (-27), [8]) := rfl
theorem s_53_23 {d : Nat} {σ : xS} {st : List Value} {Q : xR → xS → Prop} {l0 l1 l2 : Option Value} : G d 53 23 [l0, l1, l2] st σ Q ↔ G d 53 8 [l0, l1, l2] st σ Q := gs_go f_53_23 rfl
theorem f_53_24 : ft 53 24 = some (44, .return_, []) := rfl
theorem s_53_24 {d : Nat} {σ : xS} {ls : xL} {Q : xR → xS → Prop} : G d 53 24 ls [] σ Q ↔ Q (.inl none) σ := gs_ret f_53_24 rfl
theorem f_54_0 : ft 54 0 = some (0, .aload_n 0, []) := rfl
theorem s_54_0 {d : Nat} {σ : xS} {st : List Value} {Q : xR → xS → Prop} {l1 l2 : Option Value} {x : Nat} : G d 54 0 [some (.ref x), l1, l2] st σ Q ↔ G d 54 1 [some (.ref x), l1, l2] (.ref x :: st) σ Q := gs_go f_54_0 rfl
theorem f_54_1 : ft 54 1 = some (1, .aload_n 0, []) := rfl
theorem s_54_1 {d : Nat} {σ : xS} {st : List Value} {Q : xR → xS → Prop} {l1 l2 : Option Value} {x : Nat} : G d 54 1 [some (.ref x), l1, l2] st σ Q ↔ G d 54 2 [some (.ref x), l1, l2] (.ref x :: st) σ Q := gs_go f_54_1 rfl
theorem f_54_2 : ft 54 2 = some (2, .getfield 62, [4, 15, 0, 176]) := rfl
theorem s_54_2 {d : Nat} {t : yT} {st : List Value} {Q : xR → xS → Prop} {l0 l1 l2 : Option Value} {a : Nat} (ho : yisO 4 a) : G d 54 2 [l0, l1, l2] (.ref a :: st) (yemb t) Q ↔ G d 54 3 [l0, l1, l2] (.long (t.L a 15) :: st) (yemb t) Q := gs_getf (c := 4) (j := 15) (q := .l) f_54_2 ho rfl
theorem f_54_3 : ft 54 3 = some (5, .invokevirtual 139, [55, 2, 0, 1012]) := rfl
theorem s_54_3 {d : Nat} {t : yT} {st : List Value} {Q : xR → xS → Prop} {l0 l1 l2 : Option Value} {a0 : Nat} {a1 : Int64} (ho : yisO 4 a0) : G (d + 1) 54 3 [l0, l1, l2] (.long a1 :: .ref a0 :: st) (yemb t) Q ↔ xcat st ≤ 8 ∧ Cl d 55 [.ref a0, .long a1] (yemb t) (Gk (d + 1) 54 3 [l0, l1, l2] st Q) := gs_call f_54_3 ((xinv_call (i := 3) (n := 1012) (ls := [l0, l1, l2]) (kind := 0) (σ := yemb t) (by decide)).trans (xcall_vi [.long a1, .ref a0] rfl rfl (show (3 : Nat) ≤ 5 by decide) rfl ho))
theorem f_54_4 : ft 54 4 = some (8, .iconst 0, []) := rfl
theorem s_54_4 {d : Nat} {σ : xS} {st : List Value} {Q : xR → xS → Prop} {l0 l1 l2 : Option Value} : G d 54 4 [l0, l1, l2] st σ Q ↔ G d 54 5 [l0, l1, l2] (.int (0) :: st) σ Q := gs_go f_54_4 rfl
theorem f_54_5 : ft 54 5 = some (9, .istore_n 1, []) := rfl
theorem s_54_5 {d : Nat} {σ : xS} {st : List Value} {Q : xR → xS → Prop} {l0 l1 l2 : Option Value} {x : Int32} : G d 54 5 [l0, l1, l2] (.int x :: st) σ Q ↔ G d 54 6 [ykl l0, some (.int x), l2] st σ Q := by
  cases l0 with
  | none => exact gs_go f_54_5 rfl
  | some v => cases v <;> exact gs_go f_54_5 rfl
theorem f_54_6 : ft 54 6 = some (10, .iload_n 1, []) := rfl
theorem s_54_6 {d : Nat} {σ : xS} {st : List Value} {Q : xR → xS → Prop} {l0 l2 : Option Value} {x : Int32} : G d 54 6 [l0, some (.int x), l2] st σ Q ↔ G d 54 7 [l0, some (.int x), l2] (.int x :: st) σ Q := gs_go f_54_6 rfl
theorem f_54_7 : ft 54 7 = some (11, .aload_n 0, []) := rfl
theorem s_54_7 {d : Nat} {σ : xS} {st : List Value} {Q : xR → xS → Prop} {l1 l2 : Option Value} {x : Nat} : G d 54 7 [some (.ref x), l1, l2] st σ Q ↔ G d 54 8 [some (.ref x), l1, l2] (.ref x :: st) σ Q := gs_go f_54_7 rfl
theorem f_54_8 : ft 54 8 = some (12, .getfield 46, [4, 9, 0, 160]) := rfl
theorem s_54_8 {d : Nat} {t : yT} {st : List Value} {Q : xR → xS → Prop} {l0 l1 l2 : Option Value} {a : Nat} (ho : yisO 4 a) : G d 54 8 [l0, l1, l2] (.ref a :: st) (yemb t) Q ↔ G d 54 9 [l0, l1, l2] (.int (t.A a 9) :: st) (yemb t) Q := gs_getf (c := 4) (j := 9) (q := .i) f_54_8 ho rfl
theorem f_54_9 : ft 54 9 = some (15, .if_icmp .ge 59, [46]) := rfl
theorem s_54_9 {d : Nat} {σ : xS} {st : List Value} {Q : xR → xS → Prop} {l0 l1 l2 : Option Value} {x y : Int32} : G d 54 9 [l0, l1, l2] (.int y :: .int x :: st) σ Q ↔ if y ≤ x then G d 54 46 [l0, l1, l2] st σ Q else G d 54 10 [l0, l1, l2] st σ Q := gs_if f_54_9 rfl
theorem f_54_10 : ft 54 10 = some (18, .aload_n 0, []) := rfl
theorem s_54_10 {d : Nat} {σ : xS} {st : List Value} {Q : xR → xS → Prop} {l1 l2 : Option Value} {x : Nat} : G d 54 10 [some (.ref x), l1, l2] st σ Q ↔ G d 54 11 [some (.ref x), l1, l2] (.ref x :: st) σ Q := gs_go f_54_10 rfl
theorem f_54_11 : ft 54 11 = some (19, .getfield 39, [4, 17, 0, 180]) := rfl
theorem s_54_11 {d : Nat} {t : yT} {st : List Value} {Q : xR → xS → Prop} {l0 l1 l2 : Option Value} {a : Nat} (ho : yisO 4 a) : G d 54 11 [l0, l1, l2] (.ref a :: st) (yemb t) Q ↔ G d 54 12 [l0, l1, l2] (.ref (a + 10) :: st) (yemb t) Q := gs_getf (c := 4) (j := 17) (q := .c (a + 10)) f_54_11 ho rfl
theorem f_54_12 : ft 54 12 = some (22, .iload_n 1, []) := rfl
theorem s_54_12 {d : Nat} {σ : xS} {st : List Value} {Q : xR → xS → Prop} {l0 l2 : Option Value} {x : Int32} : G d 54 12 [l0, some (.int x), l2] st σ Q ↔ G d 54 13 [l0, some (.int x), l2] (.int x :: st) σ Q := gs_go f_54_12 rfl
theorem f_54_13 : ft 54 13 = some (23, .iaload, []) := rfl
theorem s_54_13 {d : Nat} {t : yT} {st : List Value} {Q : xR → xS → Prop} {l0 l1 l2 : Option Value} {a : Nat} {x : Int32} (ha : yA 0 a) : G d 54 13 [l0, l1, l2] (.int x :: .ref a :: st) (yemb t) Q ↔ yix x (yn a) ∧ G d 54 14 [l0, l1, l2] (.int (t.A a x.toNatClampNeg) :: st) (yemb t) Q := gs_iald f_54_13 ha
theorem f_54_14 : ft 54 14 = some (24, .istore_n 2, []) := rfl
theorem s_54_14 {d : Nat} {σ : xS} {st : List Value} {Q : xR → xS → Prop} {l0 l1 l2 : Option Value} {x : Int32} : G d 54 14 [l0, l1, l2] (.int x :: st) σ Q ↔ G d 54 15 [l0, ykl l1, some (.int x)] st σ Q := by
  cases l1 with
  | none => exact gs_go f_54_14 rfl
  | some v => cases v <;> exact gs_go f_54_14 rfl
theorem f_54_15 : ft 54 15 = some (25, .iload_n 2, []) := rfl
theorem s_54_15 {d : Nat} {σ : xS} {st : List Value} {Q : xR → xS → Prop} {l0 l1 : Option Value} {x : Int32} : G d 54 15 [l0, l1, some (.int x)] st σ Q ↔ G d 54 16 [l0, l1, some (.int x)] (.int x :: st) σ Q := gs_go f_54_15 rfl
theorem f_54_16 : ft 54 16 = some (26, .ifCond .lt 42, [44]) := rfl
theorem s_54_16 {d : Nat} {σ : xS} {st : List Value} {Q : xR → xS → Prop} {l0 l1 l2 : Option Value} {x : Int32} : G d 54 16 [l0, l1, l2] (.int x :: st) σ Q ↔ if x < 0 then G d 54 44 [l0, l1, l2] st σ Q else G d 54 17 [l0, l1, l2] st σ Q := gs_if f_54_16 rfl
theorem f_54_17 : ft 54 17 = some (29, .aload_n 0, []) := rfl
theorem s_54_17 {d : Nat} {σ : xS} {st : List Value} {Q : xR → xS → Prop} {l1 l2 : Option Value} {x : Nat} : G d 54 17 [some (.ref x), l1, l2] st σ Q ↔ G d 54 18 [some (.ref x), l1, l2] (.ref x :: st) σ Q := gs_go f_54_17 rfl
theorem f_54_18 : ft 54 18 = some (30, .getfield 24, [4, 4, 0, 150]) := rfl
theorem s_54_18 {d : Nat} {t : yT} {st : List Value} {Q : xR → xS → Prop} {l0 l1 l2 : Option Value} {a : Nat} (ho : yisO 4 a) : G d 54 18 [l0, l1, l2] (.ref a :: st) (yemb t) Q ↔ G d 54 19 [l0, l1, l2] (.ref (a + 5) :: st) (yemb t) Q := gs_getf (c := 4) (j := 4) (q := .c (a + 5)) f_54_18 ho rfl
theorem f_54_19 : ft 54 19 = some (33, .iload_n 1, []) := rfl
theorem s_54_19 {d : Nat} {σ : xS} {st : List Value} {Q : xR → xS → Prop} {l0 l2 : Option Value} {x : Int32} : G d 54 19 [l0, some (.int x), l2] st σ Q ↔ G d 54 20 [l0, some (.int x), l2] (.int x :: st) σ Q := gs_go f_54_19 rfl
theorem f_54_20 : ft 54 20 = some (34, .dup2, []) := rfl
theorem s_54_20 {d : Nat} {σ : xS} {st : List Value} {Q : xR → xS → Prop} {l0 l1 l2 : Option Value} {x : Nat} {y : Int32} : G d 54 20 [l0, l1, l2] (.int y :: .ref x :: st) σ Q ↔ G d 54 21 [l0, l1, l2] (.int y :: .ref x :: .int y :: .ref x :: st) σ Q := gs_go f_54_20 rfl
theorem f_54_21 : ft 54 21 = some (35, .iaload, []) := rfl
theorem s_54_21 {d : Nat} {t : yT} {st : List Value} {Q : xR → xS → Prop} {l0 l1 l2 : Option Value} {a : Nat} {x : Int32} (ha : yA 0 a) : G d 54 21 [l0, l1, l2] (.int x :: .ref a :: st) (yemb t) Q ↔ yix x (yn a) ∧ G d 54 22 [l0, l1, l2] (.int (t.A a x.toNatClampNeg) :: st) (yemb t) Q := gs_iald f_54_21 ha
theorem f_54_22 : ft 54 22 = some (36, .iconst 1, []) := rfl
theorem s_54_22 {d : Nat} {σ : xS} {st : List Value} {Q : xR → xS → Prop} {l0 l1 l2 : Option Value} : G d 54 22 [l0, l1, l2] st σ Q ↔ G d 54 23 [l0, l1, l2] (.int (1) :: st) σ Q := gs_go f_54_22 rfl
theorem f_54_23 : ft 54 23 = some (37, .iadd, []) := rfl
theorem s_54_23 {d : Nat} {σ : xS} {st : List Value} {Q : xR → xS → Prop} {l0 l1 l2 : Option Value} {x y : Int32} : G d 54 23 [l0, l1, l2] (.int y :: .int x :: st) σ Q ↔ G d 54 24 [l0, l1, l2] (.int (x + y) :: st) σ Q := gs_go f_54_23 rfl
theorem f_54_24 : ft 54 24 = some (38, .iastore, []) := rfl
theorem s_54_24 {d : Nat} {t : yT} {st : List Value} {Q : xR → xS → Prop} {l0 l1 l2 : Option Value} {a : Nat} {x v : Int32} (ha : yA 0 a) : G d 54 24 [l0, l1, l2] (.int v :: .int x :: .ref a :: st) (yemb t) Q ↔ yix x (yn a) ∧ G d 54 25 [l0, l1, l2] st (yemb (t.s1 a x.toNatClampNeg v)) Q := gs_iast f_54_24 ha
theorem f_54_25 : ft 54 25 = some (39, .aload_n 0, []) := rfl
theorem s_54_25 {d : Nat} {σ : xS} {st : List Value} {Q : xR → xS → Prop} {l1 l2 : Option Value} {x : Nat} : G d 54 25 [some (.ref x), l1, l2] st σ Q ↔ G d 54 26 [some (.ref x), l1, l2] (.ref x :: st) σ Q := gs_go f_54_25 rfl
theorem f_54_26 : ft 54 26 = some (40, .getfield 18, [4, 2, 0, 146]) := rfl
theorem s_54_26 {d : Nat} {t : yT} {st : List Value} {Q : xR → xS → Prop} {l0 l1 l2 : Option Value} {a : Nat} (ho : yisO 4 a) : G d 54 26 [l0, l1, l2] (.ref a :: st) (yemb t) Q ↔ G d 54 27 [l0, l1, l2] (.ref (a + 3) :: st) (yemb t) Q := gs_getf (c := 4) (j := 2) (q := .c (a + 3)) f_54_26 ho rfl
theorem f_54_27 : ft 54 27 = some (43, .iload_n 1, []) := rfl
theorem s_54_27 {d : Nat} {σ : xS} {st : List Value} {Q : xR → xS → Prop} {l0 l2 : Option Value} {x : Int32} : G d 54 27 [l0, some (.int x), l2] st σ Q ↔ G d 54 28 [l0, some (.int x), l2] (.int x :: st) σ Q := gs_go f_54_27 rfl
theorem f_54_28 : ft 54 28 = some (44, .iaload, []) := rfl
theorem s_54_28 {d : Nat} {t : yT} {st : List Value} {Q : xR → xS → Prop} {l0 l1 l2 : Option Value} {a : Nat} {x : Int32} (ha : yA 0 a) : G d 54 28 [l0, l1, l2] (.int x :: .ref a :: st) (yemb t) Q ↔ yix x (yn a) ∧ G d 54 29 [l0, l1, l2] (.int (t.A a x.toNatClampNeg) :: st) (yemb t) Q := gs_iald f_54_28 ha
theorem f_54_29 : ft 54 29 = some (45, .iconst 1, []) := rfl
theorem s_54_29 {d : Nat} {σ : xS} {st : List Value} {Q : xR → xS → Prop} {l0 l1 l2 : Option Value} : G d 54 29 [l0, l1, l2] st σ Q ↔ G d 54 30 [l0, l1, l2] (.int (1) :: st) σ Q := gs_go f_54_29 rfl
theorem f_54_30 : ft 54 30 = some (46, .if_icmp .eq 22, [44]) := rfl
theorem s_54_30 {d : Nat} {σ : xS} {st : List Value} {Q : xR → xS → Prop} {l0 l1 l2 : Option Value} {x y : Int32} : G d 54 30 [l0, l1, l2] (.int y :: .int x :: st) σ Q ↔ if x = y then G d 54 44 [l0, l1, l2] st σ Q else G d 54 31 [l0, l1, l2] st σ Q := gs_if f_54_30 rfl
theorem f_54_31 : ft 54 31 = some (49, .aload_n 0, []) := rfl
theorem s_54_31 {d : Nat} {σ : xS} {st : List Value} {Q : xR → xS → Prop} {l1 l2 : Option Value} {x : Nat} : G d 54 31 [some (.ref x), l1, l2] st σ Q ↔ G d 54 32 [some (.ref x), l1, l2] (.ref x :: st) σ Q := gs_go f_54_31 rfl
theorem f_54_32 : ft 54 32 = some (50, .getfield 27, [4, 5, 0, 152]) := rfl
theorem s_54_32 {d : Nat} {t : yT} {st : List Value} {Q : xR → xS → Prop} {l0 l1 l2 : Option Value} {a : Nat} (ho : yisO 4 a) : G d 54 32 [l0, l1, l2] (.ref a :: st) (yemb t) Q ↔ G d 54 33 [l0, l1, l2] (.ref (a + 6) :: st) (yemb t) Q := gs_getf (c := 4) (j := 5) (q := .c (a + 6)) f_54_32 ho rfl
theorem f_54_33 : ft 54 33 = some (53, .iload_n 1, []) := rfl
theorem s_54_33 {d : Nat} {σ : xS} {st : List Value} {Q : xR → xS → Prop} {l0 l2 : Option Value} {x : Int32} : G d 54 33 [l0, some (.int x), l2] st σ Q ↔ G d 54 34 [l0, some (.int x), l2] (.int x :: st) σ Q := gs_go f_54_33 rfl
theorem f_54_34 : ft 54 34 = some (54, .aload_n 0, []) := rfl
theorem s_54_34 {d : Nat} {σ : xS} {st : List Value} {Q : xR → xS → Prop} {l1 l2 : Option Value} {x : Nat} : G d 54 34 [some (.ref x), l1, l2] st σ Q ↔ G d 54 35 [some (.ref x), l1, l2] (.ref x :: st) σ Q := gs_go f_54_34 rfl
theorem f_54_35 : ft 54 35 = some (55, .getfield 15, [4, 1, 0, 144]) := rfl
theorem s_54_35 {d : Nat} {t : yT} {st : List Value} {Q : xR → xS → Prop} {l0 l1 l2 : Option Value} {a : Nat} (ho : yisO 4 a) : G d 54 35 [l0, l1, l2] (.ref a :: st) (yemb t) Q ↔ G d 54 36 [l0, l1, l2] (.ref (a + 2) :: st) (yemb t) Q := gs_getf (c := 4) (j := 1) (q := .c (a + 2)) f_54_35 ho rfl
theorem f_54_36 : ft 54 36 = some (58, .iload_n 2, []) := rfl
theorem s_54_36 {d : Nat} {σ : xS} {st : List Value} {Q : xR → xS → Prop} {l0 l1 : Option Value} {x : Int32} : G d 54 36 [l0, l1, some (.int x)] st σ Q ↔ G d 54 37 [l0, l1, some (.int x)] (.int x :: st) σ Q := gs_go f_54_36 rfl
theorem f_54_37 : ft 54 37 = some (59, .iaload, []) := rfl
theorem s_54_37 {d : Nat} {t : yT} {st : List Value} {Q : xR → xS → Prop} {l0 l1 l2 : Option Value} {a : Nat} {x : Int32} (ha : yA 0 a) : G d 54 37 [l0, l1, l2] (.int x :: .ref a :: st) (yemb t) Q ↔ yix x (yn a) ∧ G d 54 38 [l0, l1, l2] (.int (t.A a x.toNatClampNeg) :: st) (yemb t) Q := gs_iald f_54_37 ha
theorem f_54_38 : ft 54 38 = some (60, .iastore, []) := rfl
theorem s_54_38 {d : Nat} {t : yT} {st : List Value} {Q : xR → xS → Prop} {l0 l1 l2 : Option Value} {a : Nat} {x v : Int32} (ha : yA 0 a) : G d 54 38 [l0, l1, l2] (.int v :: .int x :: .ref a :: st) (yemb t) Q ↔ yix x (yn a) ∧ G d 54 39 [l0, l1, l2] st (yemb (t.s1 a x.toNatClampNeg v)) Q := gs_iast f_54_38 ha
theorem f_54_39 : ft 54 39 = some (61, .aload_n 0, []) := rfl
theorem s_54_39 {d : Nat} {σ : xS} {st : List Value} {Q : xR → xS → Prop} {l1 l2 : Option Value} {x : Nat} : G d 54 39 [some (.ref x), l1, l2] st σ Q ↔ G d 54 40 [some (.ref x), l1, l2] (.ref x :: st) σ Q := gs_go f_54_39 rfl
theorem f_54_40 : ft 54 40 = some (62, .getfield 30, [4, 6, 0, 154]) := rfl
theorem s_54_40 {d : Nat} {t : yT} {st : List Value} {Q : xR → xS → Prop} {l0 l1 l2 : Option Value} {a : Nat} (ho : yisO 4 a) : G d 54 40 [l0, l1, l2] (.ref a :: st) (yemb t) Q ↔ G d 54 41 [l0, l1, l2] (.ref (a + 7) :: st) (yemb t) Q := gs_getf (c := 4) (j := 6) (q := .c (a + 7)) f_54_40 ho rfl
theorem f_54_41 : ft 54 41 = some (65, .iload_n 1, []) := rfl
theorem s_54_41 {d : Nat} {σ : xS} {st : List Value} {Q : xR → xS → Prop} {l0 l2 : Option Value} {x : Int32} : G d 54 41 [l0, some (.int x), l2] st σ Q ↔ G d 54 42 [l0, some (.int x), l2] (.int x :: st) σ Q := gs_go f_54_41 rfl
theorem f_54_42 : ft 54 42 = some (66, .iload_n 2, []) := rfl
theorem s_54_42 {d : Nat} {σ : xS} {st : List Value} {Q : xR → xS → Prop} {l0 l1 : Option Value} {x : Int32} : G d 54 42 [l0, l1, some (.int x)] st σ Q ↔ G d 54 43 [l0, l1, some (.int x)] (.int x :: st) σ Q := gs_go f_54_42 rfl
theorem f_54_43 : ft 54 43 = some (67, .iastore, []) := rfl
theorem s_54_43 {d : Nat} {t : yT} {st : List Value} {Q : xR → xS → Prop} {l0 l1 l2 : Option Value} {a : Nat} {x v : Int32} (ha : yA 0 a) : G d 54 43 [l0, l1, l2] (.int v :: .int x :: .ref a :: st) (yemb t) Q ↔ yix x (yn a) ∧ G d 54 44 [l0, l1, l2] st (yemb (t.s1 a x.toNatClampNeg v)) Q := gs_iast f_54_43 ha
theorem f_54_44 : ft 54 44 = some (68, .iinc 1 1, []) := rfl
theorem s_54_44 {d : Nat} {σ : xS} {st : List Value} {Q : xR → xS → Prop} {l0 l2 : Option Value} {x : Int32} : G d 54 44 [l0, some (.int x), l2] st σ Q ↔ G d 54 45 [ykl l0, some (.int (x + 1)), l2] st σ Q := by
  cases l0 with
  | none => exact gs_go f_54_44 rfl
  | some v => cases v <;> exact gs_go f_54_44 rfl
theorem f_54_45 : ft 54 45 = some (71, .goto (-61), [6]) := rfl
theorem s_54_45 {d : Nat} {σ : xS} {st : List Value} {Q : xR → xS → Prop} {l0 l1 l2 : Option Value} : G d 54 45 [l0, l1, l2] st σ Q ↔ G d 54 6 [l0, l1, l2] st σ Q := gs_go f_54_45 rfl
theorem f_54_46 : ft 54 46 = some (74, .return_, []) := rfl
theorem s_54_46 {d : Nat} {σ : xS} {ls : xL} {Q : xR → xS → Prop} : G d 54 46 ls [] σ Q ↔ Q (.inl none) σ := gs_ret f_54_46 rfl
theorem f_55_0 : ft 55 0 = some (0, .aload_n 0, []) := rfl
theorem s_55_0 {d : Nat} {σ : xS} {st : List Value} {Q : xR → xS → Prop} {l1 l2 l3 l4 : Option Value} {x : Nat} : G d 55 0 [some (.ref x), l1, l2, l3, l4] st σ Q ↔ G d 55 1 [some (.ref x), l1, l2, l3, l4] (.ref x :: st) σ Q := gs_go f_55_0 rfl
theorem f_55_1 : ft 55 1 = some (1, .iconst (-1), []) := rfl
theorem s_55_1 {d : Nat} {σ : xS} {st : List Value} {Q : xR → xS → Prop} {l0 l1 l2 l3 l4 : Option Value} : G d 55 1 [l0, l1, l2, l3, l4] st σ Q ↔ G d 55 2 [l0, l1, l2, l3, l4] (.int (-1) :: st) σ Q := gs_go f_55_1 rfl
theorem f_55_2 : ft 55 2 = some (2, .lload_n 1, []) := rfl
theorem s_55_2 {d : Nat} {σ : xS} {st : List Value} {Q : xR → xS → Prop} {l0 l2 l3 l4 : Option Value} {x : Int64} : G d 55 2 [l0, some (.long x), l2, l3, l4] st σ Q ↔ G d 55 3 [l0, some (.long x), l2, l3, l4] (.long x :: st) σ Q := gs_go f_55_2 rfl
theorem f_55_3 : ft 55 3 = some (3, .invokevirtual 143, [56, 3, 0, 1016]) := rfl
theorem s_55_3 {d : Nat} {t : yT} {st : List Value} {Q : xR → xS → Prop} {l0 l1 l2 l3 l4 : Option Value} {a0 : Nat} {a1 : Int32} {a2 : Int64} (ho : yisO 4 a0) : G (d + 1) 55 3 [l0, l1, l2, l3, l4] (.long a2 :: .int a1 :: .ref a0 :: st) (yemb t) Q ↔ xcat st ≤ 8 ∧ Cl d 56 [.ref a0, .int a1, .long a2] (yemb t) (Gk (d + 1) 55 3 [l0, l1, l2, l3, l4] st Q) := gs_call f_55_3 ((xinv_call (i := 3) (n := 1016) (ls := [l0, l1, l2, l3, l4]) (kind := 0) (σ := yemb t) (by decide)).trans (xcall_vi [.long a2, .int a1, .ref a0] rfl rfl (show (4 : Nat) ≤ 5 by decide) rfl ho))
theorem f_55_4 : ft 55 4 = some (6, .istore_n 3, []) := rfl
theorem s_55_4 {d : Nat} {σ : xS} {st : List Value} {Q : xR → xS → Prop} {l0 l1 l2 l3 l4 : Option Value} {x : Int32} : G d 55 4 [l0, l1, l2, l3, l4] (.int x :: st) σ Q ↔ G d 55 5 [l0, l1, ykl l2, some (.int x), l4] st σ Q := by
  cases l2 with
  | none => exact gs_go f_55_4 rfl
  | some v => cases v <;> exact gs_go f_55_4 rfl
theorem f_55_5 : ft 55 5 = some (7, .iconst 0, []) := rfl
theorem s_55_5 {d : Nat} {σ : xS} {st : List Value} {Q : xR → xS → Prop} {l0 l1 l2 l3 l4 : Option Value} : G d 55 5 [l0, l1, l2, l3, l4] st σ Q ↔ G d 55 6 [l0, l1, l2, l3, l4] (.int (0) :: st) σ Q := gs_go f_55_5 rfl
theorem f_55_6 : ft 55 6 = some (8, .istore 4, []) := rfl
theorem s_55_6 {d : Nat} {σ : xS} {st : List Value} {Q : xR → xS → Prop} {l0 l1 l2 l3 l4 : Option Value} {x : Int32} : G d 55 6 [l0, l1, l2, l3, l4] (.int x :: st) σ Q ↔ G d 55 7 [l0, l1, l2, ykl l3, some (.int x)] st σ Q := by
  cases l3 with
  | none => exact gs_go f_55_6 rfl
  | some v => cases v <;> exact gs_go f_55_6 rfl
theorem f_55_7 : ft 55 7 = some (10, .iload 4, []) := rfl
theorem s_55_7 {d : Nat} {σ : xS} {st : List Value} {Q : xR → xS → Prop} {l0 l1 l2 l3 : Option Value} {x : Int32} : G d 55 7 [l0, l1, l2, l3, some (.int x)] st σ Q ↔ G d 55 8 [l0, l1, l2, l3, some (.int x)] (.int x :: st) σ Q := gs_go f_55_7 rfl
theorem f_55_8 : ft 55 8 = some (12, .aload_n 0, []) := rfl
theorem s_55_8 {d : Nat} {σ : xS} {st : List Value} {Q : xR → xS → Prop} {l1 l2 l3 l4 : Option Value} {x : Nat} : G d 55 8 [some (.ref x), l1, l2, l3, l4] st σ Q ↔ G d 55 9 [some (.ref x), l1, l2, l3, l4] (.ref x :: st) σ Q := gs_go f_55_8 rfl
theorem f_55_9 : ft 55 9 = some (13, .getfield 46, [4, 9, 0, 160]) := rfl
theorem s_55_9 {d : Nat} {t : yT} {st : List Value} {Q : xR → xS → Prop} {l0 l1 l2 l3 l4 : Option Value} {a : Nat} (ho : yisO 4 a) : G d 55 9 [l0, l1, l2, l3, l4] (.ref a :: st) (yemb t) Q ↔ G d 55 10 [l0, l1, l2, l3, l4] (.int (t.A a 9) :: st) (yemb t) Q := gs_getf (c := 4) (j := 9) (q := .i) f_55_9 ho rfl
theorem f_55_10 : ft 55 10 = some (16, .if_icmp .ge 77, [50]) := rfl
theorem s_55_10 {d : Nat} {σ : xS} {st : List Value} {Q : xR → xS → Prop} {l0 l1 l2 l3 l4 : Option Value} {x y : Int32} : G d 55 10 [l0, l1, l2, l3, l4] (.int y :: .int x :: st) σ Q ↔ if y ≤ x then G d 55 50 [l0, l1, l2, l3, l4] st σ Q else G d 55 11 [l0, l1, l2, l3, l4] st σ Q := gs_if f_55_10 rfl
theorem f_55_11 : ft 55 11 = some (19, .aload_n 0, []) := rfl
theorem s_55_11 {d : Nat} {σ : xS} {st : List Value} {Q : xR → xS → Prop} {l1 l2 l3 l4 : Option Value} {x : Nat} : G d 55 11 [some (.ref x), l1, l2, l3, l4] st σ Q ↔ G d 55 12 [some (.ref x), l1, l2, l3, l4] (.ref x :: st) σ Q := gs_go f_55_11 rfl
theorem f_55_12 : ft 55 12 = some (20, .getfield 39, [4, 17, 0, 180]) := rfl
theorem s_55_12 {d : Nat} {t : yT} {st : List Value} {Q : xR → xS → Prop} {l0 l1 l2 l3 l4 : Option Value} {a : Nat} (ho : yisO 4 a) : G d 55 12 [l0, l1, l2, l3, l4] (.ref a :: st) (yemb t) Q ↔ G d 55 13 [l0, l1, l2, l3, l4] (.ref (a + 10) :: st) (yemb t) Q := gs_getf (c := 4) (j := 17) (q := .c (a + 10)) f_55_12 ho rfl
theorem f_55_13 : ft 55 13 = some (23, .iload 4, []) := rfl
theorem s_55_13 {d : Nat} {σ : xS} {st : List Value} {Q : xR → xS → Prop} {l0 l1 l2 l3 : Option Value} {x : Int32} : G d 55 13 [l0, l1, l2, l3, some (.int x)] st σ Q ↔ G d 55 14 [l0, l1, l2, l3, some (.int x)] (.int x :: st) σ Q := gs_go f_55_13 rfl
theorem f_55_14 : ft 55 14 = some (25, .iconst (-1), []) := rfl
theorem s_55_14 {d : Nat} {σ : xS} {st : List Value} {Q : xR → xS → Prop} {l0 l1 l2 l3 l4 : Option Value} : G d 55 14 [l0, l1, l2, l3, l4] st σ Q ↔ G d 55 15 [l0, l1, l2, l3, l4] (.int (-1) :: st) σ Q := gs_go f_55_14 rfl
theorem f_55_15 : ft 55 15 = some (26, .iastore, []) := rfl
theorem s_55_15 {d : Nat} {t : yT} {st : List Value} {Q : xR → xS → Prop} {l0 l1 l2 l3 l4 : Option Value} {a : Nat} {x v : Int32} (ha : yA 0 a) : G d 55 15 [l0, l1, l2, l3, l4] (.int v :: .int x :: .ref a :: st) (yemb t) Q ↔ yix x (yn a) ∧ G d 55 16 [l0, l1, l2, l3, l4] st (yemb (t.s1 a x.toNatClampNeg v)) Q := gs_iast f_55_15 ha
theorem f_55_16 : ft 55 16 = some (27, .iload_n 3, []) := rfl
theorem s_55_16 {d : Nat} {σ : xS} {st : List Value} {Q : xR → xS → Prop} {l0 l1 l2 l4 : Option Value} {x : Int32} : G d 55 16 [l0, l1, l2, some (.int x), l4] st σ Q ↔ G d 55 17 [l0, l1, l2, some (.int x), l4] (.int x :: st) σ Q := gs_go f_55_16 rfl
theorem f_55_17 : ft 55 17 = some (28, .aload_n 0, []) := rfl
theorem s_55_17 {d : Nat} {σ : xS} {st : List Value} {Q : xR → xS → Prop} {l1 l2 l3 l4 : Option Value} {x : Nat} : G d 55 17 [some (.ref x), l1, l2, l3, l4] st σ Q ↔ G d 55 18 [some (.ref x), l1, l2, l3, l4] (.ref x :: st) σ Q := gs_go f_55_17 rfl
theorem f_55_18 : ft 55 18 = some (29, .getfield 46, [4, 9, 0, 160]) := rfl
theorem s_55_18 {d : Nat} {t : yT} {st : List Value} {Q : xR → xS → Prop} {l0 l1 l2 l3 l4 : Option Value} {a : Nat} (ho : yisO 4 a) : G d 55 18 [l0, l1, l2, l3, l4] (.ref a :: st) (yemb t) Q ↔ G d 55 19 [l0, l1, l2, l3, l4] (.int (t.A a 9) :: st) (yemb t) Q := gs_getf (c := 4) (j := 9) (q := .i) f_55_18 ho rfl
theorem f_55_19 : ft 55 19 = some (32, .if_icmp .ge 55, [48]) := rfl
theorem s_55_19 {d : Nat} {σ : xS} {st : List Value} {Q : xR → xS → Prop} {l0 l1 l2 l3 l4 : Option Value} {x y : Int32} : G d 55 19 [l0, l1, l2, l3, l4] (.int y :: .int x :: st) σ Q ↔ if y ≤ x then G d 55 48 [l0, l1, l2, l3, l4] st σ Q else G d 55 20 [l0, l1, l2, l3, l4] st σ Q := gs_if f_55_19 rfl
theorem f_55_20 : ft 55 20 = some (35, .lload_n 1, []) := rfl
theorem s_55_20 {d : Nat} {σ : xS} {st : List Value} {Q : xR → xS → Prop} {l0 l2 l3 l4 : Option Value} {x : Int64} : G d 55 20 [l0, some (.long x), l2, l3, l4] st σ Q ↔ G d 55 21 [l0, some (.long x), l2, l3, l4] (.long x :: st) σ Q := gs_go f_55_20 rfl
theorem f_55_21 : ft 55 21 = some (36, .iload 4, []) := rfl
theorem s_55_21 {d : Nat} {σ : xS} {st : List Value} {Q : xR → xS → Prop} {l0 l1 l2 l3 : Option Value} {x : Int32} : G d 55 21 [l0, l1, l2, l3, some (.int x)] st σ Q ↔ G d 55 22 [l0, l1, l2, l3, some (.int x)] (.int x :: st) σ Q := gs_go f_55_21 rfl
theorem f_55_22 : ft 55 22 = some (38, .invokestatic 84, [64, 2, 1, 1020]) := rfl
theorem s_55_22 {d : Nat} {σ : xS} {st : List Value} {Q : xR → xS → Prop} {l0 l1 l2 l3 l4 : Option Value} {a0 : Int64} {a1 : Int32} : G (d + 1) 55 22 [l0, l1, l2, l3, l4] (.int a1 :: .long a0 :: st) σ Q ↔ xcat st ≤ 8 ∧ Cl d 64 [.long a0, .int a1] σ (Gk (d + 1) 55 22 [l0, l1, l2, l3, l4] st Q) := gs_call f_55_22 ((xinv_call (i := 22) (n := 1020) (ls := [l0, l1, l2, l3, l4]) (kind := 1) (σ := σ) (by decide)).trans (xcall_st [.int a1, .long a0] rfl (by decide) (show (3 : Nat) ≤ 3 by decide)))
theorem f_55_23 : ft 55 23 = some (41, .ifCond .ne 46, [48]) := rfl
theorem s_55_23 {d : Nat} {σ : xS} {st : List Value} {Q : xR → xS → Prop} {l0 l1 l2 l3 l4 : Option Value} {x : Int32} : G d 55 23 [l0, l1, l2, l3, l4] (.int x :: st) σ Q ↔ if x ≠ 0 then G d 55 48 [l0, l1, l2, l3, l4] st σ Q else G d 55 24 [l0, l1, l2, l3, l4] st σ Q := gs_if f_55_23 rfl
theorem f_55_24 : ft 55 24 = some (44, .aload_n 0, []) := rfl
theorem s_55_24 {d : Nat} {σ : xS} {st : List Value} {Q : xR → xS → Prop} {l1 l2 l3 l4 : Option Value} {x : Nat} : G d 55 24 [some (.ref x), l1, l2, l3, l4] st σ Q ↔ G d 55 25 [some (.ref x), l1, l2, l3, l4] (.ref x :: st) σ Q := gs_go f_55_24 rfl
theorem f_55_25 : ft 55 25 = some (45, .getfield 39, [4, 17, 0, 180]) := rfl
theorem s_55_25 {d : Nat} {t : yT} {st : List Value} {Q : xR → xS → Prop} {l0 l1 l2 l3 l4 : Option Value} {a : Nat} (ho : yisO 4 a) : G d 55 25 [l0, l1, l2, l3, l4] (.ref a :: st) (yemb t) Q ↔ G d 55 26 [l0, l1, l2, l3, l4] (.ref (a + 10) :: st) (yemb t) Q := gs_getf (c := 4) (j := 17) (q := .c (a + 10)) f_55_25 ho rfl
theorem f_55_26 : ft 55 26 = some (48, .iload 4, []) := rfl
theorem s_55_26 {d : Nat} {σ : xS} {st : List Value} {Q : xR → xS → Prop} {l0 l1 l2 l3 : Option Value} {x : Int32} : G d 55 26 [l0, l1, l2, l3, some (.int x)] st σ Q ↔ G d 55 27 [l0, l1, l2, l3, some (.int x)] (.int x :: st) σ Q := gs_go f_55_26 rfl
theorem f_55_27 : ft 55 27 = some (50, .iload_n 3, []) := rfl
theorem s_55_27 {d : Nat} {σ : xS} {st : List Value} {Q : xR → xS → Prop} {l0 l1 l2 l4 : Option Value} {x : Int32} : G d 55 27 [l0, l1, l2, some (.int x), l4] st σ Q ↔ G d 55 28 [l0, l1, l2, some (.int x), l4] (.int x :: st) σ Q := gs_go f_55_27 rfl
theorem f_55_28 : ft 55 28 = some (51, .iastore, []) := rfl
theorem s_55_28 {d : Nat} {t : yT} {st : List Value} {Q : xR → xS → Prop} {l0 l1 l2 l3 l4 : Option Value} {a : Nat} {x v : Int32} (ha : yA 0 a) : G d 55 28 [l0, l1, l2, l3, l4] (.int v :: .int x :: .ref a :: st) (yemb t) Q ↔ yix x (yn a) ∧ G d 55 29 [l0, l1, l2, l3, l4] st (yemb (t.s1 a x.toNatClampNeg v)) Q := gs_iast f_55_28 ha
theorem f_55_29 : ft 55 29 = some (52, .aload_n 0, []) := rfl
theorem s_55_29 {d : Nat} {σ : xS} {st : List Value} {Q : xR → xS → Prop} {l1 l2 l3 l4 : Option Value} {x : Nat} : G d 55 29 [some (.ref x), l1, l2, l3, l4] st σ Q ↔ G d 55 30 [some (.ref x), l1, l2, l3, l4] (.ref x :: st) σ Q := gs_go f_55_29 rfl
theorem f_55_30 : ft 55 30 = some (53, .getfield 18, [4, 2, 0, 146]) := rfl
theorem s_55_30 {d : Nat} {t : yT} {st : List Value} {Q : xR → xS → Prop} {l0 l1 l2 l3 l4 : Option Value} {a : Nat} (ho : yisO 4 a) : G d 55 30 [l0, l1, l2, l3, l4] (.ref a :: st) (yemb t) Q ↔ G d 55 31 [l0, l1, l2, l3, l4] (.ref (a + 3) :: st) (yemb t) Q := gs_getf (c := 4) (j := 2) (q := .c (a + 3)) f_55_30 ho rfl
theorem f_55_31 : ft 55 31 = some (56, .iload 4, []) := rfl
theorem s_55_31 {d : Nat} {σ : xS} {st : List Value} {Q : xR → xS → Prop} {l0 l1 l2 l3 : Option Value} {x : Int32} : G d 55 31 [l0, l1, l2, l3, some (.int x)] st σ Q ↔ G d 55 32 [l0, l1, l2, l3, some (.int x)] (.int x :: st) σ Q := gs_go f_55_31 rfl
theorem f_55_32 : ft 55 32 = some (58, .iaload, []) := rfl
theorem s_55_32 {d : Nat} {t : yT} {st : List Value} {Q : xR → xS → Prop} {l0 l1 l2 l3 l4 : Option Value} {a : Nat} {x : Int32} (ha : yA 0 a) : G d 55 32 [l0, l1, l2, l3, l4] (.int x :: .ref a :: st) (yemb t) Q ↔ yix x (yn a) ∧ G d 55 33 [l0, l1, l2, l3, l4] (.int (t.A a x.toNatClampNeg) :: st) (yemb t) Q := gs_iald f_55_32 ha
theorem f_55_33 : ft 55 33 = some (59, .iconst 1, []) := rfl
theorem s_55_33 {d : Nat} {σ : xS} {st : List Value} {Q : xR → xS → Prop} {l0 l1 l2 l3 l4 : Option Value} : G d 55 33 [l0, l1, l2, l3, l4] st σ Q ↔ G d 55 34 [l0, l1, l2, l3, l4] (.int (1) :: st) σ Q := gs_go f_55_33 rfl
theorem f_55_34 : ft 55 34 = some (60, .if_icmp .ne 11, [39]) := rfl
theorem s_55_34 {d : Nat} {σ : xS} {st : List Value} {Q : xR → xS → Prop} {l0 l1 l2 l3 l4 : Option Value} {x y : Int32} : G d 55 34 [l0, l1, l2, l3, l4] (.int y :: .int x :: st) σ Q ↔ if x ≠ y then G d 55 39 [l0, l1, l2, l3, l4] st σ Q else G d 55 35 [l0, l1, l2, l3, l4] st σ Q := gs_if f_55_34 rfl
theorem f_55_35 : ft 55 35 = some (63, .aload_n 0, []) := rfl
theorem s_55_35 {d : Nat} {σ : xS} {st : List Value} {Q : xR → xS → Prop} {l1 l2 l3 l4 : Option Value} {x : Nat} : G d 55 35 [some (.ref x), l1, l2, l3, l4] st σ Q ↔ G d 55 36 [some (.ref x), l1, l2, l3, l4] (.ref x :: st) σ Q := gs_go f_55_35 rfl
theorem f_55_36 : ft 55 36 = some (64, .getfield 46, [4, 9, 0, 160]) := rfl
theorem s_55_36 {d : Nat} {t : yT} {st : List Value} {Q : xR → xS → Prop} {l0 l1 l2 l3 l4 : Option Value} {a : Nat} (ho : yisO 4 a) : G d 55 36 [l0, l1, l2, l3, l4] (.ref a :: st) (yemb t) Q ↔ G d 55 37 [l0, l1, l2, l3, l4] (.int (t.A a 9) :: st) (yemb t) Q := gs_getf (c := 4) (j := 9) (q := .i) f_55_36 ho rfl
theorem f_55_37 : ft 55 37 = some (67, .istore_n 3, []) := rfl
theorem s_55_37 {d : Nat} {σ : xS} {st : List Value} {Q : xR → xS → Prop} {l0 l1 l2 l3 l4 : Option Value} {x : Int32} : G d 55 37 [l0, l1, l2, l3, l4] (.int x :: st) σ Q ↔ G d 55 38 [l0, l1, ykl l2, some (.int x), l4] st σ Q := by
  cases l2 with
  | none => exact gs_go f_55_37 rfl
  | some v => cases v <;> exact gs_go f_55_37 rfl
theorem f_55_38 : ft 55 38 = some (68, .goto 19, [48]) := rfl
theorem s_55_38 {d : Nat} {σ : xS} {st : List Value} {Q : xR → xS → Prop} {l0 l1 l2 l3 l4 : Option Value} : G d 55 38 [l0, l1, l2, l3, l4] st σ Q ↔ G d 55 48 [l0, l1, l2, l3, l4] st σ Q := gs_go f_55_38 rfl
theorem f_55_39 : ft 55 39 = some (71, .aload_n 0, []) := rfl
theorem s_55_39 {d : Nat} {σ : xS} {st : List Value} {Q : xR → xS → Prop} {l1 l2 l3 l4 : Option Value} {x : Nat} : G d 55 39 [some (.ref x), l1, l2, l3, l4] st σ Q ↔ G d 55 40 [some (.ref x), l1, l2, l3, l4] (.ref x :: st) σ Q := gs_go f_55_39 rfl
theorem f_55_40 : ft 55 40 = some (72, .iload 4, []) := rfl
theorem s_55_40 {d : Nat} {σ : xS} {st : List Value} {Q : xR → xS → Prop} {l0 l1 l2 l3 : Option Value} {x : Int32} : G d 55 40 [l0, l1, l2, l3, some (.int x)] st σ Q ↔ G d 55 41 [l0, l1, l2, l3, some (.int x)] (.int x :: st) σ Q := gs_go f_55_40 rfl
theorem f_55_41 : ft 55 41 = some (74, .invokevirtual 147, [57, 2, 0, 1021]) := rfl
theorem s_55_41 {d : Nat} {t : yT} {st : List Value} {Q : xR → xS → Prop} {l0 l1 l2 l3 l4 : Option Value} {a0 : Nat} {a1 : Int32} (ho : yisO 4 a0) : G (d + 1) 55 41 [l0, l1, l2, l3, l4] (.int a1 :: .ref a0 :: st) (yemb t) Q ↔ xcat st ≤ 8 ∧ Cl d 57 [.ref a0, .int a1] (yemb t) (Gk (d + 1) 55 41 [l0, l1, l2, l3, l4] st Q) := gs_call f_55_41 ((xinv_call (i := 41) (n := 1021) (ls := [l0, l1, l2, l3, l4]) (kind := 0) (σ := yemb t) (by decide)).trans (xcall_vi [.int a1, .ref a0] rfl rfl (show (2 : Nat) ≤ 2 by decide) rfl ho))
theorem f_55_42 : ft 55 42 = some (77, .ifCond .ne 10, [48]) := rfl
theorem s_55_42 {d : Nat} {σ : xS} {st : List Value} {Q : xR → xS → Prop} {l0 l1 l2 l3 l4 : Option Value} {x : Int32} : G d 55 42 [l0, l1, l2, l3, l4] (.int x :: st) σ Q ↔ if x ≠ 0 then G d 55 48 [l0, l1, l2, l3, l4] st σ Q else G d 55 43 [l0, l1, l2, l3, l4] st σ Q := gs_if f_55_42 rfl
theorem f_55_43 : ft 55 43 = some (80, .aload_n 0, []) := rfl
theorem s_55_43 {d : Nat} {σ : xS} {st : List Value} {Q : xR → xS → Prop} {l1 l2 l3 l4 : Option Value} {x : Nat} : G d 55 43 [some (.ref x), l1, l2, l3, l4] st σ Q ↔ G d 55 44 [some (.ref x), l1, l2, l3, l4] (.ref x :: st) σ Q := gs_go f_55_43 rfl
theorem f_55_44 : ft 55 44 = some (81, .iload_n 3, []) := rfl
theorem s_55_44 {d : Nat} {σ : xS} {st : List Value} {Q : xR → xS → Prop} {l0 l1 l2 l4 : Option Value} {x : Int32} : G d 55 44 [l0, l1, l2, some (.int x), l4] st σ Q ↔ G d 55 45 [l0, l1, l2, some (.int x), l4] (.int x :: st) σ Q := gs_go f_55_44 rfl
theorem f_55_45 : ft 55 45 = some (82, .lload_n 1, []) := rfl
theorem s_55_45 {d : Nat} {σ : xS} {st : List Value} {Q : xR → xS → Prop} {l0 l2 l3 l4 : Option Value} {x : Int64} : G d 55 45 [l0, some (.long x), l2, l3, l4] st σ Q ↔ G d 55 46 [l0, some (.long x), l2, l3, l4] (.long x :: st) σ Q := gs_go f_55_45 rfl
theorem f_55_46 : ft 55 46 = some (83, .invokevirtual 143, [56, 3, 0, 1016]) := rfl
theorem s_55_46 {d : Nat} {t : yT} {st : List Value} {Q : xR → xS → Prop} {l0 l1 l2 l3 l4 : Option Value} {a0 : Nat} {a1 : Int32} {a2 : Int64} (ho : yisO 4 a0) : G (d + 1) 55 46 [l0, l1, l2, l3, l4] (.long a2 :: .int a1 :: .ref a0 :: st) (yemb t) Q ↔ xcat st ≤ 8 ∧ Cl d 56 [.ref a0, .int a1, .long a2] (yemb t) (Gk (d + 1) 55 46 [l0, l1, l2, l3, l4] st Q) := gs_call f_55_46 ((xinv_call (i := 46) (n := 1016) (ls := [l0, l1, l2, l3, l4]) (kind := 0) (σ := yemb t) (by decide)).trans (xcall_vi [.long a2, .int a1, .ref a0] rfl rfl (show (4 : Nat) ≤ 5 by decide) rfl ho))
theorem f_55_47 : ft 55 47 = some (86, .istore_n 3, []) := rfl
theorem s_55_47 {d : Nat} {σ : xS} {st : List Value} {Q : xR → xS → Prop} {l0 l1 l2 l3 l4 : Option Value} {x : Int32} : G d 55 47 [l0, l1, l2, l3, l4] (.int x :: st) σ Q ↔ G d 55 48 [l0, l1, ykl l2, some (.int x), l4] st σ Q := by
  cases l2 with
  | none => exact gs_go f_55_47 rfl
  | some v => cases v <;> exact gs_go f_55_47 rfl
theorem f_55_48 : ft 55 48 = some (87, .iinc 4 1, []) := rfl
theorem s_55_48 {d : Nat} {σ : xS} {st : List Value} {Q : xR → xS → Prop} {l0 l1 l2 l3 : Option Value} {x : Int32} : G d 55 48 [l0, l1, l2, l3, some (.int x)] st σ Q ↔ G d 55 49 [l0, l1, l2, ykl l3, some (.int (x + 1))] st σ Q := by
  cases l3 with
  | none => exact gs_go f_55_48 rfl
  | some v => cases v <;> exact gs_go f_55_48 rfl
theorem f_55_49 : ft 55 49 = some (90, .goto (-80), [7]) := rfl
theorem s_55_49 {d : Nat} {σ : xS} {st : List Value} {Q : xR → xS → Prop} {l0 l1 l2 l3 l4 : Option Value} : G d 55 49 [l0, l1, l2, l3, l4] st σ Q ↔ G d 55 7 [l0, l1, l2, l3, l4] st σ Q := gs_go f_55_49 rfl
theorem f_55_50 : ft 55 50 = some (93, .return_, []) := rfl
theorem s_55_50 {d : Nat} {σ : xS} {ls : xL} {Q : xR → xS → Prop} : G d 55 50 ls [] σ Q ↔ Q (.inl none) σ := gs_ret f_55_50 rfl
theorem f_56_0 : ft 56 0 = some (0, .iload_n 1, []) := rfl
theorem s_56_0 {d : Nat} {σ : xS} {st : List Value} {Q : xR → xS → Prop} {l0 l2 l3 l4 : Option Value} {x : Int32} : G d 56 0 [l0, some (.int x), l2, l3, l4] st σ Q ↔ G d 56 1 [l0, some (.int x), l2, l3, l4] (.int x :: st) σ Q := gs_go f_56_0 rfl
theorem f_56_1 : ft 56 1 = some (1, .iconst 1, []) := rfl
theorem s_56_1 {d : Nat} {σ : xS} {st : List Value} {Q : xR → xS → Prop} {l0 l1 l2 l3 l4 : Option Value} : G d 56 1 [l0, l1, l2, l3, l4] st σ Q ↔ G d 56 2 [l0, l1, l2, l3, l4] (.int (1) :: st) σ Q := gs_go f_56_1 rfl
theorem f_56_2 : ft 56 2 = some (2, .iadd, []) := rfl
theorem s_56_2 {d : Nat} {σ : xS} {st : List Value} {Q : xR → xS → Prop} {l0 l1 l2 l3 l4 : Option Value} {x y : Int32} : G d 56 2 [l0, l1, l2, l3, l4] (.int y :: .int x :: st) σ Q ↔ G d 56 3 [l0, l1, l2, l3, l4] (.int (x + y) :: st) σ Q := gs_go f_56_2 rfl
theorem f_56_3 : ft 56 3 = some (3, .istore 4, []) := rfl
theorem s_56_3 {d : Nat} {σ : xS} {st : List Value} {Q : xR → xS → Prop} {l0 l1 l2 l3 l4 : Option Value} {x : Int32} : G d 56 3 [l0, l1, l2, l3, l4] (.int x :: st) σ Q ↔ G d 56 4 [l0, l1, l2, ykl l3, some (.int x)] st σ Q := by
  cases l3 with
  | none => exact gs_go f_56_3 rfl
  | some v => cases v <;> exact gs_go f_56_3 rfl
theorem f_56_4 : ft 56 4 = some (5, .iload 4, []) := rfl
theorem s_56_4 {d : Nat} {σ : xS} {st : List Value} {Q : xR → xS → Prop} {l0 l1 l2 l3 : Option Value} {x : Int32} : G d 56 4 [l0, l1, l2, l3, some (.int x)] st σ Q ↔ G d 56 5 [l0, l1, l2, l3, some (.int x)] (.int x :: st) σ Q := gs_go f_56_4 rfl
theorem f_56_5 : ft 56 5 = some (7, .aload_n 0, []) := rfl
theorem s_56_5 {d : Nat} {σ : xS} {st : List Value} {Q : xR → xS → Prop} {l1 l2 l3 l4 : Option Value} {x : Nat} : G d 56 5 [some (.ref x), l1, l2, l3, l4] st σ Q ↔ G d 56 6 [some (.ref x), l1, l2, l3, l4] (.ref x :: st) σ Q := gs_go f_56_5 rfl
theorem f_56_6 : ft 56 6 = some (8, .getfield 46, [4, 9, 0, 160]) := rfl
theorem s_56_6 {d : Nat} {t : yT} {st : List Value} {Q : xR → xS → Prop} {l0 l1 l2 l3 l4 : Option Value} {a : Nat} (ho : yisO 4 a) : G d 56 6 [l0, l1, l2, l3, l4] (.ref a :: st) (yemb t) Q ↔ G d 56 7 [l0, l1, l2, l3, l4] (.int (t.A a 9) :: st) (yemb t) Q := gs_getf (c := 4) (j := 9) (q := .i) f_56_6 ho rfl
theorem f_56_7 : ft 56 7 = some (11, .if_icmp .ge 18, [14]) := rfl
theorem s_56_7 {d : Nat} {σ : xS} {st : List Value} {Q : xR → xS → Prop} {l0 l1 l2 l3 l4 : Option Value} {x y : Int32} : G d 56 7 [l0, l1, l2, l3, l4] (.int y :: .int x :: st) σ Q ↔ if y ≤ x then G d 56 14 [l0, l1, l2, l3, l4] st σ Q else G d 56 8 [l0, l1, l2, l3, l4] st σ Q := gs_if f_56_7 rfl
theorem f_56_8 : ft 56 8 = some (14, .lload_n 2, []) := rfl
theorem s_56_8 {d : Nat} {σ : xS} {st : List Value} {Q : xR → xS → Prop} {l0 l1 l3 l4 : Option Value} {x : Int64} : G d 56 8 [l0, l1, some (.long x), l3, l4] st σ Q ↔ G d 56 9 [l0, l1, some (.long x), l3, l4] (.long x :: st) σ Q := gs_go f_56_8 rfl
theorem f_56_9 : ft 56 9 = some (15, .iload 4, []) := rfl
theorem s_56_9 {d : Nat} {σ : xS} {st : List Value} {Q : xR → xS → Prop} {l0 l1 l2 l3 : Option Value} {x : Int32} : G d 56 9 [l0, l1, l2, l3, some (.int x)] st σ Q ↔ G d 56 10 [l0, l1, l2, l3, some (.int x)] (.int x :: st) σ Q := gs_go f_56_9 rfl
theorem f_56_10 : ft 56 10 = some (17, .invokestatic 84, [64, 2, 1, 1020]) := rfl
theorem s_56_10 {d : Nat} {σ : xS} {st : List Value} {Q : xR → xS → Prop} {l0 l1 l2 l3 l4 : Option Value} {a0 : Int64} {a1 : Int32} : G (d + 1) 56 10 [l0, l1, l2, l3, l4] (.int a1 :: .long a0 :: st) σ Q ↔ xcat st ≤ 8 ∧ Cl d 64 [.long a0, .int a1] σ (Gk (d + 1) 56 10 [l0, l1, l2, l3, l4] st Q) := gs_call f_56_10 ((xinv_call (i := 10) (n := 1020) (ls := [l0, l1, l2, l3, l4]) (kind := 1) (σ := σ) (by decide)).trans (xcall_st [.int a1, .long a0] rfl (by decide) (show (3 : Nat) ≤ 3 by decide)))
theorem f_56_11 : ft 56 11 = some (20, .ifCond .eq 9, [14]) := rfl
theorem s_56_11 {d : Nat} {σ : xS} {st : List Value} {Q : xR → xS → Prop} {l0 l1 l2 l3 l4 : Option Value} {x : Int32} : G d 56 11 [l0, l1, l2, l3, l4] (.int x :: st) σ Q ↔ if x = 0 then G d 56 14 [l0, l1, l2, l3, l4] st σ Q else G d 56 12 [l0, l1, l2, l3, l4] st σ Q := gs_if f_56_11 rfl
theorem f_56_12 : ft 56 12 = some (23, .iinc 4 1, []) := rfl
theorem s_56_12 {d : Nat} {σ : xS} {st : List Value} {Q : xR → xS → Prop} {l0 l1 l2 l3 : Option Value} {x : Int32} : G d 56 12 [l0, l1, l2, l3, some (.int x)] st σ Q ↔ G d 56 13 [l0, l1, l2, ykl l3, some (.int (x + 1))] st σ Q := by
  cases l3 with
  | none => exact gs_go f_56_12 rfl
  | some v => cases v <;> exact gs_go f_56_12 rfl
theorem f_56_13 : ft 56 13 = some (26, .goto (-21), [4]) := rfl
theorem s_56_13 {d : Nat} {σ : xS} {st : List Value} {Q : xR → xS → Prop} {l0 l1 l2 l3 l4 : Option Value} : G d 56 13 [l0, l1, l2, l3, l4] st σ Q ↔ G d 56 4 [l0, l1, l2, l3, l4] st σ Q := gs_go f_56_13 rfl
theorem f_56_14 : ft 56 14 = some (29, .iload 4, []) := rfl
theorem s_56_14 {d : Nat} {σ : xS} {st : List Value} {Q : xR → xS → Prop} {l0 l1 l2 l3 : Option Value} {x : Int32} : G d 56 14 [l0, l1, l2, l3, some (.int x)] st σ Q ↔ G d 56 15 [l0, l1, l2, l3, some (.int x)] (.int x :: st) σ Q := gs_go f_56_14 rfl
theorem f_56_15 : ft 56 15 = some (31, .ireturn, []) := rfl
theorem s_56_15 {d : Nat} {σ : xS} {ls : xL} {Q : xR → xS → Prop} {x : Int32} : G d 56 15 ls [.int x] σ Q ↔ Q (.inl (some (.int x))) σ := gs_reti f_56_15 rfl
theorem f_57_0 : ft 57 0 = some (0, .aload_n 0, []) := rfl
theorem s_57_0 {d : Nat} {σ : xS} {st : List Value} {Q : xR → xS → Prop} {l1 : Option Value} {x : Nat} : G d 57 0 [some (.ref x), l1] st σ Q ↔ G d 57 1 [some (.ref x), l1] (.ref x :: st) σ Q := gs_go f_57_0 rfl
theorem f_57_1 : ft 57 1 = some (1, .getfield 18, [4, 2, 0, 146]) := rfl
theorem s_57_1 {d : Nat} {t : yT} {st : List Value} {Q : xR → xS → Prop} {l0 l1 : Option Value} {a : Nat} (ho : yisO 4 a) : G d 57 1 [l0, l1] (.ref a :: st) (yemb t) Q ↔ G d 57 2 [l0, l1] (.ref (a + 3) :: st) (yemb t) Q := gs_getf (c := 4) (j := 2) (q := .c (a + 3)) f_57_1 ho rfl
theorem f_57_2 : ft 57 2 = some (4, .iload_n 1, []) := rfl
theorem s_57_2 {d : Nat} {σ : xS} {st : List Value} {Q : xR → xS → Prop} {l0 : Option Value} {x : Int32} : G d 57 2 [l0, some (.int x)] st σ Q ↔ G d 57 3 [l0, some (.int x)] (.int x :: st) σ Q := gs_go f_57_2 rfl
theorem f_57_3 : ft 57 3 = some (5, .iaload, []) := rfl
theorem s_57_3 {d : Nat} {t : yT} {st : List Value} {Q : xR → xS → Prop} {l0 l1 : Option Value} {a : Nat} {x : Int32} (ha : yA 0 a) : G d 57 3 [l0, l1] (.int x :: .ref a :: st) (yemb t) Q ↔ yix x (yn a) ∧ G d 57 4 [l0, l1] (.int (t.A a x.toNatClampNeg) :: st) (yemb t) Q := gs_iald f_57_3 ha
theorem f_57_4 : ft 57 4 = some (6, .iconst 3, []) := rfl
theorem s_57_4 {d : Nat} {σ : xS} {st : List Value} {Q : xR → xS → Prop} {l0 l1 : Option Value} : G d 57 4 [l0, l1] st σ Q ↔ G d 57 5 [l0, l1] (.int (3) :: st) σ Q := gs_go f_57_4 rfl
theorem f_57_5 : ft 57 5 = some (7, .if_icmp .ne 34, [25]) := rfl
theorem s_57_5 {d : Nat} {σ : xS} {st : List Value} {Q : xR → xS → Prop} {l0 l1 : Option Value} {x y : Int32} : G d 57 5 [l0, l1] (.int y :: .int x :: st) σ Q ↔ if x ≠ y then G d 57 25 [l0, l1] st σ Q else G d 57 6 [l0, l1] st σ Q := gs_if f_57_5 rfl
theorem f_57_6 : ft 57 6 = some (10, .aload_n 0, []) := rfl
theorem s_57_6 {d : Nat} {σ : xS} {st : List Value} {Q : xR → xS → Prop} {l1 : Option Value} {x : Nat} : G d 57 6 [some (.ref x), l1] st σ Q ↔ G d 57 7 [some (.ref x), l1] (.ref x :: st) σ Q := gs_go f_57_6 rfl
theorem f_57_7 : ft 57 7 = some (11, .getfield 21, [4, 3, 0, 148]) := rfl
theorem s_57_7 {d : Nat} {t : yT} {st : List Value} {Q : xR → xS → Prop} {l0 l1 : Option Value} {a : Nat} (ho : yisO 4 a) : G d 57 7 [l0, l1] (.ref a :: st) (yemb t) Q ↔ G d 57 8 [l0, l1] (.ref (a + 4) :: st) (yemb t) Q := gs_getf (c := 4) (j := 3) (q := .c (a + 4)) f_57_7 ho rfl
theorem f_57_8 : ft 57 8 = some (14, .iload_n 1, []) := rfl
theorem s_57_8 {d : Nat} {σ : xS} {st : List Value} {Q : xR → xS → Prop} {l0 : Option Value} {x : Int32} : G d 57 8 [l0, some (.int x)] st σ Q ↔ G d 57 9 [l0, some (.int x)] (.int x :: st) σ Q := gs_go f_57_8 rfl
theorem f_57_9 : ft 57 9 = some (15, .iaload, []) := rfl
theorem s_57_9 {d : Nat} {t : yT} {st : List Value} {Q : xR → xS → Prop} {l0 l1 : Option Value} {a : Nat} {x : Int32} (ha : yA 0 a) : G d 57 9 [l0, l1] (.int x :: .ref a :: st) (yemb t) Q ↔ yix x (yn a) ∧ G d 57 10 [l0, l1] (.int (t.A a x.toNatClampNeg) :: st) (yemb t) Q := gs_iald f_57_9 ha
theorem f_57_10 : ft 57 10 = some (16, .ifCond .le 25, [25]) := rfl
theorem s_57_10 {d : Nat} {σ : xS} {st : List Value} {Q : xR → xS → Prop} {l0 l1 : Option Value} {x : Int32} : G d 57 10 [l0, l1] (.int x :: st) σ Q ↔ if x ≤ 0 then G d 57 25 [l0, l1] st σ Q else G d 57 11 [l0, l1] st σ Q := gs_if f_57_10 rfl
theorem f_57_11 : ft 57 11 = some (19, .aload_n 0, []) := rfl
theorem s_57_11 {d : Nat} {σ : xS} {st : List Value} {Q : xR → xS → Prop} {l1 : Option Value} {x : Nat} : G d 57 11 [some (.ref x), l1] st σ Q ↔ G d 57 12 [some (.ref x), l1] (.ref x :: st) σ Q := gs_go f_57_11 rfl
theorem f_57_12 : ft 57 12 = some (20, .getfield 24, [4, 4, 0, 150]) := rfl
theorem s_57_12 {d : Nat} {t : yT} {st : List Value} {Q : xR → xS → Prop} {l0 l1 : Option Value} {a : Nat} (ho : yisO 4 a) : G d 57 12 [l0, l1] (.ref a :: st) (yemb t) Q ↔ G d 57 13 [l0, l1] (.ref (a + 5) :: st) (yemb t) Q := gs_getf (c := 4) (j := 4) (q := .c (a + 5)) f_57_12 ho rfl
theorem f_57_13 : ft 57 13 = some (23, .iload_n 1, []) := rfl
theorem s_57_13 {d : Nat} {σ : xS} {st : List Value} {Q : xR → xS → Prop} {l0 : Option Value} {x : Int32} : G d 57 13 [l0, some (.int x)] st σ Q ↔ G d 57 14 [l0, some (.int x)] (.int x :: st) σ Q := gs_go f_57_13 rfl
theorem f_57_14 : ft 57 14 = some (24, .iaload, []) := rfl
theorem s_57_14 {d : Nat} {t : yT} {st : List Value} {Q : xR → xS → Prop} {l0 l1 : Option Value} {a : Nat} {x : Int32} (ha : yA 0 a) : G d 57 14 [l0, l1] (.int x :: .ref a :: st) (yemb t) Q ↔ yix x (yn a) ∧ G d 57 15 [l0, l1] (.int (t.A a x.toNatClampNeg) :: st) (yemb t) Q := gs_iald f_57_14 ha
theorem f_57_15 : ft 57 15 = some (25, .iconst 1, []) := rfl
theorem s_57_15 {d : Nat} {σ : xS} {st : List Value} {Q : xR → xS → Prop} {l0 l1 : Option Value} : G d 57 15 [l0, l1] st σ Q ↔ G d 57 16 [l0, l1] (.int (1) :: st) σ Q := gs_go f_57_15 rfl
theorem f_57_16 : ft 57 16 = some (26, .iadd, []) := rfl
theorem s_57_16 {d : Nat} {σ : xS} {st : List Value} {Q : xR → xS → Prop} {l0 l1 : Option Value} {x y : Int32} : G d 57 16 [l0, l1] (.int y :: .int x :: st) σ Q ↔ G d 57 17 [l0, l1] (.int (x + y) :: st) σ Q := gs_go f_57_16 rfl
theorem f_57_17 : ft 57 17 = some (27, .aload_n 0, []) := rfl
theorem s_57_17 {d : Nat} {σ : xS} {st : List Value} {Q : xR → xS → Prop} {l1 : Option Value} {x : Nat} : G d 57 17 [some (.ref x), l1] st σ Q ↔ G d 57 18 [some (.ref x), l1] (.ref x :: st) σ Q := gs_go f_57_17 rfl
theorem f_57_18 : ft 57 18 = some (28, .getfield 21, [4, 3, 0, 148]) := rfl
theorem s_57_18 {d : Nat} {t : yT} {st : List Value} {Q : xR → xS → Prop} {l0 l1 : Option Value} {a : Nat} (ho : yisO 4 a) : G d 57 18 [l0, l1] (.ref a :: st) (yemb t) Q ↔ G d 57 19 [l0, l1] (.ref (a + 4) :: st) (yemb t) Q := gs_getf (c := 4) (j := 3) (q := .c (a + 4)) f_57_18 ho rfl
theorem f_57_19 : ft 57 19 = some (31, .iload_n 1, []) := rfl
theorem s_57_19 {d : Nat} {σ : xS} {st : List Value} {Q : xR → xS → Prop} {l0 : Option Value} {x : Int32} : G d 57 19 [l0, some (.int x)] st σ Q ↔ G d 57 20 [l0, some (.int x)] (.int x :: st) σ Q := gs_go f_57_19 rfl
theorem f_57_20 : ft 57 20 = some (32, .iaload, []) := rfl
theorem s_57_20 {d : Nat} {t : yT} {st : List Value} {Q : xR → xS → Prop} {l0 l1 : Option Value} {a : Nat} {x : Int32} (ha : yA 0 a) : G d 57 20 [l0, l1] (.int x :: .ref a :: st) (yemb t) Q ↔ yix x (yn a) ∧ G d 57 21 [l0, l1] (.int (t.A a x.toNatClampNeg) :: st) (yemb t) Q := gs_iald f_57_20 ha
theorem f_57_21 : ft 57 21 = some (33, .irem, []) := rfl
theorem s_57_21 {d : Nat} {σ : xS} {st : List Value} {Q : xR → xS → Prop} {l0 l1 : Option Value} {x y : Int32} (h : ¬ y = 0) : G d 57 21 [l0, l1] (.int y :: .int x :: st) σ Q ↔ G d 57 22 [l0, l1] (.int (x - x / y * y) :: st) σ Q := gs_go f_57_21 (if_pos h)
theorem f_57_22 : ft 57 22 = some (34, .ifCond .ne 7, [25]) := rfl
theorem s_57_22 {d : Nat} {σ : xS} {st : List Value} {Q : xR → xS → Prop} {l0 l1 : Option Value} {x : Int32} : G d 57 22 [l0, l1] (.int x :: st) σ Q ↔ if x ≠ 0 then G d 57 25 [l0, l1] st σ Q else G d 57 23 [l0, l1] st σ Q := gs_if f_57_22 rfl
theorem f_57_23 : ft 57 23 = some (37, .iconst 1, []) := rfl
theorem s_57_23 {d : Nat} {σ : xS} {st : List Value} {Q : xR → xS → Prop} {l0 l1 : Option Value} : G d 57 23 [l0, l1] st σ Q ↔ G d 57 24 [l0, l1] (.int (1) :: st) σ Q := gs_go f_57_23 rfl
theorem f_57_24 : ft 57 24 = some (38, .goto 4, [26]) := rfl
theorem s_57_24 {d : Nat} {σ : xS} {st : List Value} {Q : xR → xS → Prop} {l0 l1 : Option Value} : G d 57 24 [l0, l1] st σ Q ↔ G d 57 26 [l0, l1] st σ Q := gs_go f_57_24 rfl
theorem f_57_25 : ft 57 25 = some (41, .iconst 0, []) := rfl
theorem s_57_25 {d : Nat} {σ : xS} {st : List Value} {Q : xR → xS → Prop} {l0 l1 : Option Value} : G d 57 25 [l0, l1] st σ Q ↔ G d 57 26 [l0, l1] (.int (0) :: st) σ Q := gs_go f_57_25 rfl
theorem f_57_26 : ft 57 26 = some (42, .ireturn, []) := rfl
theorem s_57_26 {d : Nat} {σ : xS} {ls : xL} {Q : xR → xS → Prop} {x : Int32} : G d 57 26 ls [.int x] σ Q ↔ ybo x ∧ Q (.inl (some (.int x))) σ := gs_retb f_57_26 rfl
theorem f_58_0 : ft 58 0 = some (0, .aload_n 0, []) := rfl
theorem s_58_0 {d : Nat} {σ : xS} {st : List Value} {Q : xR → xS → Prop} {l1 : Option Value} {x : Nat} : G d 58 0 [some (.ref x), l1] st σ Q ↔ G d 58 1 [some (.ref x), l1] (.ref x :: st) σ Q := gs_go f_58_0 rfl
theorem f_58_1 : ft 58 1 = some (1, .getfield 18, [4, 2, 0, 146]) := rfl
theorem s_58_1 {d : Nat} {t : yT} {st : List Value} {Q : xR → xS → Prop} {l0 l1 : Option Value} {a : Nat} (ho : yisO 4 a) : G d 58 1 [l0, l1] (.ref a :: st) (yemb t) Q ↔ G d 58 2 [l0, l1] (.ref (a + 3) :: st) (yemb t) Q := gs_getf (c := 4) (j := 2) (q := .c (a + 3)) f_58_1 ho rfl
theorem f_58_2 : ft 58 2 = some (4, .iload_n 1, []) := rfl
theorem s_58_2 {d : Nat} {σ : xS} {st : List Value} {Q : xR → xS → Prop} {l0 : Option Value} {x : Int32} : G d 58 2 [l0, some (.int x)] st σ Q ↔ G d 58 3 [l0, some (.int x)] (.int x :: st) σ Q := gs_go f_58_2 rfl
theorem f_58_3 : ft 58 3 = some (5, .iaload, []) := rfl
theorem s_58_3 {d : Nat} {t : yT} {st : List Value} {Q : xR → xS → Prop} {l0 l1 : Option Value} {a : Nat} {x : Int32} (ha : yA 0 a) : G d 58 3 [l0, l1] (.int x :: .ref a :: st) (yemb t) Q ↔ yix x (yn a) ∧ G d 58 4 [l0, l1] (.int (t.A a x.toNatClampNeg) :: st) (yemb t) Q := gs_iald f_58_3 ha
theorem f_58_4 : ft 58 4 = some (6, .iconst 1, []) := rfl
theorem s_58_4 {d : Nat} {σ : xS} {st : List Value} {Q : xR → xS → Prop} {l0 l1 : Option Value} : G d 58 4 [l0, l1] st σ Q ↔ G d 58 5 [l0, l1] (.int (1) :: st) σ Q := gs_go f_58_4 rfl
theorem f_58_5 : ft 58 5 = some (7, .if_icmp .eq 13, [12]) := rfl
theorem s_58_5 {d : Nat} {σ : xS} {st : List Value} {Q : xR → xS → Prop} {l0 l1 : Option Value} {x y : Int32} : G d 58 5 [l0, l1] (.int y :: .int x :: st) σ Q ↔ if x = y then G d 58 12 [l0, l1] st σ Q else G d 58 6 [l0, l1] st σ Q := gs_if f_58_5 rfl
theorem f_58_6 : ft 58 6 = some (10, .aload_n 0, []) := rfl
theorem s_58_6 {d : Nat} {σ : xS} {st : List Value} {Q : xR → xS → Prop} {l1 : Option Value} {x : Nat} : G d 58 6 [some (.ref x), l1] st σ Q ↔ G d 58 7 [some (.ref x), l1] (.ref x :: st) σ Q := gs_go f_58_6 rfl
theorem f_58_7 : ft 58 7 = some (11, .getfield 18, [4, 2, 0, 146]) := rfl
theorem s_58_7 {d : Nat} {t : yT} {st : List Value} {Q : xR → xS → Prop} {l0 l1 : Option Value} {a : Nat} (ho : yisO 4 a) : G d 58 7 [l0, l1] (.ref a :: st) (yemb t) Q ↔ G d 58 8 [l0, l1] (.ref (a + 3) :: st) (yemb t) Q := gs_getf (c := 4) (j := 2) (q := .c (a + 3)) f_58_7 ho rfl
theorem f_58_8 : ft 58 8 = some (14, .iload_n 1, []) := rfl
theorem s_58_8 {d : Nat} {σ : xS} {st : List Value} {Q : xR → xS → Prop} {l0 : Option Value} {x : Int32} : G d 58 8 [l0, some (.int x)] st σ Q ↔ G d 58 9 [l0, some (.int x)] (.int x :: st) σ Q := gs_go f_58_8 rfl
theorem f_58_9 : ft 58 9 = some (15, .iaload, []) := rfl
theorem s_58_9 {d : Nat} {t : yT} {st : List Value} {Q : xR → xS → Prop} {l0 l1 : Option Value} {a : Nat} {x : Int32} (ha : yA 0 a) : G d 58 9 [l0, l1] (.int x :: .ref a :: st) (yemb t) Q ↔ yix x (yn a) ∧ G d 58 10 [l0, l1] (.int (t.A a x.toNatClampNeg) :: st) (yemb t) Q := gs_iald f_58_9 ha
theorem f_58_10 : ft 58 10 = some (16, .iconst 2, []) := rfl
theorem s_58_10 {d : Nat} {σ : xS} {st : List Value} {Q : xR → xS → Prop} {l0 l1 : Option Value} : G d 58 10 [l0, l1] st σ Q ↔ G d 58 11 [l0, l1] (.int (2) :: st) σ Q := gs_go f_58_10 rfl
theorem f_58_11 : ft 58 11 = some (17, .if_icmp .ne 7, [14]) := rfl
theorem s_58_11 {d : Nat} {σ : xS} {st : List Value} {Q : xR → xS → Prop} {l0 l1 : Option Value} {x y : Int32} : G d 58 11 [l0, l1] (.int y :: .int x :: st) σ Q ↔ if x ≠ y then G d 58 14 [l0, l1] st σ Q else G d 58 12 [l0, l1] st σ Q := gs_if f_58_11 rfl
theorem f_58_12 : ft 58 12 = some (20, .iconst 1, []) := rfl
theorem s_58_12 {d : Nat} {σ : xS} {st : List Value} {Q : xR → xS → Prop} {l0 l1 : Option Value} : G d 58 12 [l0, l1] st σ Q ↔ G d 58 13 [l0, l1] (.int (1) :: st) σ Q := gs_go f_58_12 rfl
theorem f_58_13 : ft 58 13 = some (21, .goto 4, [15]) := rfl
theorem s_58_13 {d : Nat} {σ : xS} {st : List Value} {Q : xR → xS → Prop} {l0 l1 : Option Value} : G d 58 13 [l0, l1] st σ Q ↔ G d 58 15 [l0, l1] st σ Q := gs_go f_58_13 rfl
theorem f_58_14 : ft 58 14 = some (24, .iconst 0, []) := rfl
theorem s_58_14 {d : Nat} {σ : xS} {st : List Value} {Q : xR → xS → Prop} {l0 l1 : Option Value} : G d 58 14 [l0, l1] st σ Q ↔ G d 58 15 [l0, l1] (.int (0) :: st) σ Q := gs_go f_58_14 rfl
theorem f_58_15 : ft 58 15 = some (25, .ireturn, []) := rfl
theorem s_58_15 {d : Nat} {σ : xS} {ls : xL} {Q : xR → xS → Prop} {x : Int32} : G d 58 15 ls [.int x] σ Q ↔ ybo x ∧ Q (.inl (some (.int x))) σ := gs_retb f_58_15 rfl
theorem f_59_0 : ft 59 0 = some (0, .iconst 0, []) := rfl
theorem s_59_0 {d : Nat} {σ : xS} {st : List Value} {Q : xR → xS → Prop} {l0 l1 l2 : Option Value} : G d 59 0 [l0, l1, l2] st σ Q ↔ G d 59 1 [l0, l1, l2] (.int (0) :: st) σ Q := gs_go f_59_0 rfl
theorem f_59_1 : ft 59 1 = some (1, .istore_n 1, []) := rfl
theorem s_59_1 {d : Nat} {σ : xS} {st : List Value} {Q : xR → xS → Prop} {l0 l1 l2 : Option Value} {x : Int32} : G d 59 1 [l0, l1, l2] (.int x :: st) σ Q ↔ G d 59 2 [ykl l0, some (.int x), l2] st σ Q := by
  cases l0 with
  | none => exact gs_go f_59_1 rfl
  | some v => cases v <;> exact gs_go f_59_1 rfl
theorem f_59_2 : ft 59 2 = some (2, .iconst 0, []) := rfl
theorem s_59_2 {d : Nat} {σ : xS} {st : List Value} {Q : xR → xS → Prop} {l0 l1 l2 : Option Value} : G d 59 2 [l0, l1, l2] st σ Q ↔ G d 59 3 [l0, l1, l2] (.int (0) :: st) σ Q := gs_go f_59_2 rfl
theorem f_59_3 : ft 59 3 = some (3, .istore_n 2, []) := rfl
theorem s_59_3 {d : Nat} {σ : xS} {st : List Value} {Q : xR → xS → Prop} {l0 l1 l2 : Option Value} {x : Int32} : G d 59 3 [l0, l1, l2] (.int x :: st) σ Q ↔ G d 59 4 [l0, ykl l1, some (.int x)] st σ Q := by
  cases l1 with
  | none => exact gs_go f_59_3 rfl
  | some v => cases v <;> exact gs_go f_59_3 rfl
theorem f_59_4 : ft 59 4 = some (4, .iload_n 2, []) := rfl
theorem s_59_4 {d : Nat} {σ : xS} {st : List Value} {Q : xR → xS → Prop} {l0 l1 : Option Value} {x : Int32} : G d 59 4 [l0, l1, some (.int x)] st σ Q ↔ G d 59 5 [l0, l1, some (.int x)] (.int x :: st) σ Q := gs_go f_59_4 rfl
theorem f_59_5 : ft 59 5 = some (5, .aload_n 0, []) := rfl
theorem s_59_5 {d : Nat} {σ : xS} {st : List Value} {Q : xR → xS → Prop} {l1 l2 : Option Value} {x : Nat} : G d 59 5 [some (.ref x), l1, l2] st σ Q ↔ G d 59 6 [some (.ref x), l1, l2] (.ref x :: st) σ Q := gs_go f_59_5 rfl
theorem f_59_6 : ft 59 6 = some (6, .getfield 46, [4, 9, 0, 160]) := rfl
theorem s_59_6 {d : Nat} {t : yT} {st : List Value} {Q : xR → xS → Prop} {l0 l1 l2 : Option Value} {a : Nat} (ho : yisO 4 a) : G d 59 6 [l0, l1, l2] (.ref a :: st) (yemb t) Q ↔ G d 59 7 [l0, l1, l2] (.int (t.A a 9) :: st) (yemb t) Q := gs_getf (c := 4) (j := 9) (q := .i) f_59_6 ho rfl
theorem f_59_7 : ft 59 7 = some (9, .if_icmp .ge 43, [28]) := rfl
theorem s_59_7 {d : Nat} {σ : xS} {st : List Value} {Q : xR → xS → Prop} {l0 l1 l2 : Option Value} {x y : Int32} : G d 59 7 [l0, l1, l2] (.int y :: .int x :: st) σ Q ↔ if y ≤ x then G d 59 28 [l0, l1, l2] st σ Q else G d 59 8 [l0, l1, l2] st σ Q := gs_if f_59_7 rfl
theorem f_59_8 : ft 59 8 = some (12, .aload_n 0, []) := rfl
theorem s_59_8 {d : Nat} {σ : xS} {st : List Value} {Q : xR → xS → Prop} {l1 l2 : Option Value} {x : Nat} : G d 59 8 [some (.ref x), l1, l2] st σ Q ↔ G d 59 9 [some (.ref x), l1, l2] (.ref x :: st) σ Q := gs_go f_59_8 rfl
theorem f_59_9 : ft 59 9 = some (13, .iload_n 2, []) := rfl
theorem s_59_9 {d : Nat} {σ : xS} {st : List Value} {Q : xR → xS → Prop} {l0 l1 : Option Value} {x : Int32} : G d 59 9 [l0, l1, some (.int x)] st σ Q ↔ G d 59 10 [l0, l1, some (.int x)] (.int x :: st) σ Q := gs_go f_59_9 rfl
theorem f_59_10 : ft 59 10 = some (14, .invokevirtual 150, [34, 2, 0, 1092]) := rfl
theorem s_59_10 {d : Nat} {t : yT} {st : List Value} {Q : xR → xS → Prop} {l0 l1 l2 : Option Value} {a0 : Nat} {a1 : Int32} (ho : yisO 4 a0) : G (d + 1) 59 10 [l0, l1, l2] (.int a1 :: .ref a0 :: st) (yemb t) Q ↔ xcat st ≤ 8 ∧ Cl d 34 [.ref a0, .int a1] (yemb t) (Gk (d + 1) 59 10 [l0, l1, l2] st Q) := gs_call f_59_10 ((xinv_call (i := 10) (n := 1092) (ls := [l0, l1, l2]) (kind := 0) (σ := yemb t) (by decide)).trans (xcall_vi [.int a1, .ref a0] rfl rfl (show (2 : Nat) ≤ 2 by decide) rfl ho))
theorem f_59_11 : ft 59 11 = some (17, .ifCond .ne 29, [26]) := rfl
theorem s_59_11 {d : Nat} {σ : xS} {st : List Value} {Q : xR → xS → Prop} {l0 l1 l2 : Option Value} {x : Int32} : G d 59 11 [l0, l1, l2] (.int x :: st) σ Q ↔ if x ≠ 0 then G d 59 26 [l0, l1, l2] st σ Q else G d 59 12 [l0, l1, l2] st σ Q := gs_if f_59_11 rfl
theorem f_59_12 : ft 59 12 = some (20, .aload_n 0, []) := rfl
theorem s_59_12 {d : Nat} {σ : xS} {st : List Value} {Q : xR → xS → Prop} {l1 l2 : Option Value} {x : Nat} : G d 59 12 [some (.ref x), l1, l2] st σ Q ↔ G d 59 13 [some (.ref x), l1, l2] (.ref x :: st) σ Q := gs_go f_59_12 rfl
theorem f_59_13 : ft 59 13 = some (21, .iload_n 2, []) := rfl
theorem s_59_13 {d : Nat} {σ : xS} {st : List Value} {Q : xR → xS → Prop} {l0 l1 : Option Value} {x : Int32} : G d 59 13 [l0, l1, some (.int x)] st σ Q ↔ G d 59 14 [l0, l1, some (.int x)] (.int x :: st) σ Q := gs_go f_59_13 rfl
theorem f_59_14 : ft 59 14 = some (22, .invokevirtual 153, [58, 2, 0, 1126]) := rfl
theorem s_59_14 {d : Nat} {t : yT} {st : List Value} {Q : xR → xS → Prop} {l0 l1 l2 : Option Value} {a0 : Nat} {a1 : Int32} (ho : yisO 4 a0) : G (d + 1) 59 14 [l0, l1, l2] (.int a1 :: .ref a0 :: st) (yemb t) Q ↔ xcat st ≤ 8 ∧ Cl d 58 [.ref a0, .int a1] (yemb t) (Gk (d + 1) 59 14 [l0, l1, l2] st Q) := gs_call f_59_14 ((xinv_call (i := 14) (n := 1126) (ls := [l0, l1, l2]) (kind := 0) (σ := yemb t) (by decide)).trans (xcall_vi [.int a1, .ref a0] rfl rfl (show (2 : Nat) ≤ 2 by decide) rfl ho))
theorem f_59_15 : ft 59 15 = some (25, .ifCond .ne 18, [25]) := rfl
theorem s_59_15 {d : Nat} {σ : xS} {st : List Value} {Q : xR → xS → Prop} {l0 l1 l2 : Option Value} {x : Int32} : G d 59 15 [l0, l1, l2] (.int x :: st) σ Q ↔ if x ≠ 0 then G d 59 25 [l0, l1, l2] st σ Q else G d 59 16 [l0, l1, l2] st σ Q := gs_if f_59_15 rfl
theorem f_59_16 : ft 59 16 = some (28, .aload_n 0, []) := rfl
theorem s_59_16 {d : Nat} {σ : xS} {st : List Value} {Q : xR → xS → Prop} {l1 l2 : Option Value} {x : Nat} : G d 59 16 [some (.ref x), l1, l2] st σ Q ↔ G d 59 17 [some (.ref x), l1, l2] (.ref x :: st) σ Q := gs_go f_59_16 rfl
theorem f_59_17 : ft 59 17 = some (29, .getfield 27, [4, 5, 0, 152]) := rfl
theorem s_59_17 {d : Nat} {t : yT} {st : List Value} {Q : xR → xS → Prop} {l0 l1 l2 : Option Value} {a : Nat} (ho : yisO 4 a) : G d 59 17 [l0, l1, l2] (.ref a :: st) (yemb t) Q ↔ G d 59 18 [l0, l1, l2] (.ref (a + 6) :: st) (yemb t) Q := gs_getf (c := 4) (j := 5) (q := .c (a + 6)) f_59_17 ho rfl
theorem f_59_18 : ft 59 18 = some (32, .iload_n 2, []) := rfl
theorem s_59_18 {d : Nat} {σ : xS} {st : List Value} {Q : xR → xS → Prop} {l0 l1 : Option Value} {x : Int32} : G d 59 18 [l0, l1, some (.int x)] st σ Q ↔ G d 59 19 [l0, l1, some (.int x)] (.int x :: st) σ Q := gs_go f_59_18 rfl
theorem f_59_19 : ft 59 19 = some (33, .iaload, []) := rfl
theorem s_59_19 {d : Nat} {t : yT} {st : List Value} {Q : xR → xS → Prop} {l0 l1 l2 : Option Value} {a : Nat} {x : Int32} (ha : yA 0 a) : G d 59 19 [l0, l1, l2] (.int x :: .ref a :: st) (yemb t) Q ↔ yix x (yn a) ∧ G d 59 20 [l0, l1, l2] (.int (t.A a x.toNatClampNeg) :: st) (yemb t) Q := gs_iald f_59_19 ha
theorem f_59_20 : ft 59 20 = some (34, .aload_n 0, []) := rfl
theorem s_59_20 {d : Nat} {σ : xS} {st : List Value} {Q : xR → xS → Prop} {l1 l2 : Option Value} {x : Nat} : G d 59 20 [some (.ref x), l1, l2] st σ Q ↔ G d 59 21 [some (.ref x), l1, l2] (.ref x :: st) σ Q := gs_go f_59_20 rfl
theorem f_59_21 : ft 59 21 = some (35, .getfield 15, [4, 1, 0, 144]) := rfl
theorem s_59_21 {d : Nat} {t : yT} {st : List Value} {Q : xR → xS → Prop} {l0 l1 l2 : Option Value} {a : Nat} (ho : yisO 4 a) : G d 59 21 [l0, l1, l2] (.ref a :: st) (yemb t) Q ↔ G d 59 22 [l0, l1, l2] (.ref (a + 2) :: st) (yemb t) Q := gs_getf (c := 4) (j := 1) (q := .c (a + 2)) f_59_21 ho rfl
theorem f_59_22 : ft 59 22 = some (38, .iload_n 2, []) := rfl
theorem s_59_22 {d : Nat} {σ : xS} {st : List Value} {Q : xR → xS → Prop} {l0 l1 : Option Value} {x : Int32} : G d 59 22 [l0, l1, some (.int x)] st σ Q ↔ G d 59 23 [l0, l1, some (.int x)] (.int x :: st) σ Q := gs_go f_59_22 rfl
theorem f_59_23 : ft 59 23 = some (39, .iaload, []) := rfl
theorem s_59_23 {d : Nat} {t : yT} {st : List Value} {Q : xR → xS → Prop} {l0 l1 l2 : Option Value} {a : Nat} {x : Int32} (ha : yA 0 a) : G d 59 23 [l0, l1, l2] (.int x :: .ref a :: st) (yemb t) Q ↔ yix x (yn a) ∧ G d 59 24 [l0, l1, l2] (.int (t.A a x.toNatClampNeg) :: st) (yemb t) Q := gs_iald f_59_23 ha
theorem f_59_24 : ft 59 24 = some (40, .if_icmp .eq 6, [26]) := rfl
theorem s_59_24 {d : Nat} {σ : xS} {st : List Value} {Q : xR → xS → Prop} {l0 l1 l2 : Option Value} {x y : Int32} : G d 59 24 [l0, l1, l2] (.int y :: .int x :: st) σ Q ↔ if x = y then G d 59 26 [l0, l1, l2] st σ Q else G d 59 25 [l0, l1, l2] st σ Q := gs_if f_59_24 rfl
theorem f_59_25 : ft 59 25 = some (43, .iinc 1 1, []) := rfl
theorem s_59_25 {d : Nat} {σ : xS} {st : List Value} {Q : xR → xS → Prop} {l0 l2 : Option Value} {x : Int32} : G d 59 25 [l0, some (.int x), l2] st σ Q ↔ G d 59 26 [ykl l0, some (.int (x + 1)), l2] st σ Q := by
  cases l0 with
  | none => exact gs_go f_59_25 rfl
  | some v => cases v <;> exact gs_go f_59_25 rfl
theorem f_59_26 : ft 59 26 = some (46, .iinc 2 1, []) := rfl
theorem s_59_26 {d : Nat} {σ : xS} {st : List Value} {Q : xR → xS → Prop} {l0 l1 : Option Value} {x : Int32} : G d 59 26 [l0, l1, some (.int x)] st σ Q ↔ G d 59 27 [l0, ykl l1, some (.int (x + 1))] st σ Q := by
  cases l1 with
  | none => exact gs_go f_59_26 rfl
  | some v => cases v <;> exact gs_go f_59_26 rfl
theorem f_59_27 : ft 59 27 = some (49, .goto (-45), [4]) := rfl
theorem s_59_27 {d : Nat} {σ : xS} {st : List Value} {Q : xR → xS → Prop} {l0 l1 l2 : Option Value} : G d 59 27 [l0, l1, l2] st σ Q ↔ G d 59 4 [l0, l1, l2] st σ Q := gs_go f_59_27 rfl
theorem f_59_28 : ft 59 28 = some (52, .iload_n 1, []) := rfl
theorem s_59_28 {d : Nat} {σ : xS} {st : List Value} {Q : xR → xS → Prop} {l0 l2 : Option Value} {x : Int32} : G d 59 28 [l0, some (.int x), l2] st σ Q ↔ G d 59 29 [l0, some (.int x), l2] (.int x :: st) σ Q := gs_go f_59_28 rfl
theorem f_59_29 : ft 59 29 = some (53, .ireturn, []) := rfl
theorem s_59_29 {d : Nat} {σ : xS} {ls : xL} {Q : xR → xS → Prop} {x : Int32} : G d 59 29 ls [.int x] σ Q ↔ Q (.inl (some (.int x))) σ := gs_reti f_59_29 rfl
theorem f_60_0 : ft 60 0 = some (0, .aload_n 0, []) := rfl
theorem s_60_0 {d : Nat} {σ : xS} {st : List Value} {Q : xR → xS → Prop} {l1 l2 l3 l4 l5 : Option Value} {x : Nat} : G d 60 0 [some (.ref x), l1, l2, l3, l4, l5] st σ Q ↔ G d 60 1 [some (.ref x), l1, l2, l3, l4, l5] (.ref x :: st) σ Q := gs_go f_60_0 rfl
theorem f_60_1 : ft 60 1 = some (1, .lload_n 1, []) := rfl
theorem s_60_1 {d : Nat} {σ : xS} {st : List Value} {Q : xR → xS → Prop} {l0 l2 l3 l4 l5 : Option Value} {x : Int64} : G d 60 1 [l0, some (.long x), l2, l3, l4, l5] st σ Q ↔ G d 60 2 [l0, some (.long x), l2, l3, l4, l5] (.long x :: st) σ Q := gs_go f_60_1 rfl
theorem f_60_2 : ft 60 2 = some (2, .invokevirtual 139, [55, 2, 0, 1012]) := rfl
theorem s_60_2 {d : Nat} {t : yT} {st : List Value} {Q : xR → xS → Prop} {l0 l1 l2 l3 l4 l5 : Option Value} {a0 : Nat} {a1 : Int64} (ho : yisO 4 a0) : G (d + 1) 60 2 [l0, l1, l2, l3, l4, l5] (.long a1 :: .ref a0 :: st) (yemb t) Q ↔ xcat st ≤ 8 ∧ Cl d 55 [.ref a0, .long a1] (yemb t) (Gk (d + 1) 60 2 [l0, l1, l2, l3, l4, l5] st Q) := gs_call f_60_2 ((xinv_call (i := 2) (n := 1012) (ls := [l0, l1, l2, l3, l4, l5]) (kind := 0) (σ := yemb t) (by decide)).trans (xcall_vi [.long a1, .ref a0] rfl rfl (show (3 : Nat) ≤ 5 by decide) rfl ho))
theorem f_60_3 : ft 60 3 = some (5, .iconst 0, []) := rfl
theorem s_60_3 {d : Nat} {σ : xS} {st : List Value} {Q : xR → xS → Prop} {l0 l1 l2 l3 l4 l5 : Option Value} : G d 60 3 [l0, l1, l2, l3, l4, l5] st σ Q ↔ G d 60 4 [l0, l1, l2, l3, l4, l5] (.int (0) :: st) σ Q := gs_go f_60_3 rfl
theorem f_60_4 : ft 60 4 = some (6, .istore_n 3, []) := rfl
theorem s_60_4 {d : Nat} {σ : xS} {st : List Value} {Q : xR → xS → Prop} {l0 l1 l2 l3 l4 l5 : Option Value} {x : Int32} : G d 60 4 [l0, l1, l2, l3, l4, l5] (.int x :: st) σ Q ↔ G d 60 5 [l0, l1, ykl l2, some (.int x), l4, l5] st σ Q := by
  cases l2 with
  | none => exact gs_go f_60_4 rfl
  | some v => cases v <;> exact gs_go f_60_4 rfl
theorem f_60_5 : ft 60 5 = some (7, .iconst 0, []) := rfl
theorem s_60_5 {d : Nat} {σ : xS} {st : List Value} {Q : xR → xS → Prop} {l0 l1 l2 l3 l4 l5 : Option Value} : G d 60 5 [l0, l1, l2, l3, l4, l5] st σ Q ↔ G d 60 6 [l0, l1, l2, l3, l4, l5] (.int (0) :: st) σ Q := gs_go f_60_5 rfl
theorem f_60_6 : ft 60 6 = some (8, .istore 4, []) := rfl
theorem s_60_6 {d : Nat} {σ : xS} {st : List Value} {Q : xR → xS → Prop} {l0 l1 l2 l3 l4 l5 : Option Value} {x : Int32} : G d 60 6 [l0, l1, l2, l3, l4, l5] (.int x :: st) σ Q ↔ G d 60 7 [l0, l1, l2, ykl l3, some (.int x), l5] st σ Q := by
  cases l3 with
  | none => exact gs_go f_60_6 rfl
  | some v => cases v <;> exact gs_go f_60_6 rfl
theorem f_60_7 : ft 60 7 = some (10, .iload 4, []) := rfl
theorem s_60_7 {d : Nat} {σ : xS} {st : List Value} {Q : xR → xS → Prop} {l0 l1 l2 l3 l5 : Option Value} {x : Int32} : G d 60 7 [l0, l1, l2, l3, some (.int x), l5] st σ Q ↔ G d 60 8 [l0, l1, l2, l3, some (.int x), l5] (.int x :: st) σ Q := gs_go f_60_7 rfl
theorem f_60_8 : ft 60 8 = some (12, .aload_n 0, []) := rfl
theorem s_60_8 {d : Nat} {σ : xS} {st : List Value} {Q : xR → xS → Prop} {l1 l2 l3 l4 l5 : Option Value} {x : Nat} : G d 60 8 [some (.ref x), l1, l2, l3, l4, l5] st σ Q ↔ G d 60 9 [some (.ref x), l1, l2, l3, l4, l5] (.ref x :: st) σ Q := gs_go f_60_8 rfl
theorem f_60_9 : ft 60 9 = some (13, .getfield 46, [4, 9, 0, 160]) := rfl
theorem s_60_9 {d : Nat} {t : yT} {st : List Value} {Q : xR → xS → Prop} {l0 l1 l2 l3 l4 l5 : Option Value} {a : Nat} (ho : yisO 4 a) : G d 60 9 [l0, l1, l2, l3, l4, l5] (.ref a :: st) (yemb t) Q ↔ G d 60 10 [l0, l1, l2, l3, l4, l5] (.int (t.A a 9) :: st) (yemb t) Q := gs_getf (c := 4) (j := 9) (q := .i) f_60_9 ho rfl
theorem f_60_10 : ft 60 10 = some (16, .if_icmp .ge 76, [46]) := rfl
theorem s_60_10 {d : Nat} {σ : xS} {st : List Value} {Q : xR → xS → Prop} {l0 l1 l2 l3 l4 l5 : Option Value} {x y : Int32} : G d 60 10 [l0, l1, l2, l3, l4, l5] (.int y :: .int x :: st) σ Q ↔ if y ≤ x then G d 60 46 [l0, l1, l2, l3, l4, l5] st σ Q else G d 60 11 [l0, l1, l2, l3, l4, l5] st σ Q := gs_if f_60_10 rfl
theorem f_60_11 : ft 60 11 = some (19, .lload_n 1, []) := rfl
theorem s_60_11 {d : Nat} {σ : xS} {st : List Value} {Q : xR → xS → Prop} {l0 l2 l3 l4 l5 : Option Value} {x : Int64} : G d 60 11 [l0, some (.long x), l2, l3, l4, l5] st σ Q ↔ G d 60 12 [l0, some (.long x), l2, l3, l4, l5] (.long x :: st) σ Q := gs_go f_60_11 rfl
theorem f_60_12 : ft 60 12 = some (20, .iload 4, []) := rfl
theorem s_60_12 {d : Nat} {σ : xS} {st : List Value} {Q : xR → xS → Prop} {l0 l1 l2 l3 l5 : Option Value} {x : Int32} : G d 60 12 [l0, l1, l2, l3, some (.int x), l5] st σ Q ↔ G d 60 13 [l0, l1, l2, l3, some (.int x), l5] (.int x :: st) σ Q := gs_go f_60_12 rfl
theorem f_60_13 : ft 60 13 = some (22, .invokestatic 84, [64, 2, 1, 1020]) := rfl
theorem s_60_13 {d : Nat} {σ : xS} {st : List Value} {Q : xR → xS → Prop} {l0 l1 l2 l3 l4 l5 : Option Value} {a0 : Int64} {a1 : Int32} : G (d + 1) 60 13 [l0, l1, l2, l3, l4, l5] (.int a1 :: .long a0 :: st) σ Q ↔ xcat st ≤ 8 ∧ Cl d 64 [.long a0, .int a1] σ (Gk (d + 1) 60 13 [l0, l1, l2, l3, l4, l5] st Q) := gs_call f_60_13 ((xinv_call (i := 13) (n := 1020) (ls := [l0, l1, l2, l3, l4, l5]) (kind := 1) (σ := σ) (by decide)).trans (xcall_st [.int a1, .long a0] rfl (by decide) (show (3 : Nat) ≤ 3 by decide)))
theorem f_60_14 : ft 60 14 = some (25, .ifCond .ne 61, [44]) := rfl
theorem s_60_14 {d : Nat} {σ : xS} {st : List Value} {Q : xR → xS → Prop} {l0 l1 l2 l3 l4 l5 : Option Value} {x : Int32} : G d 60 14 [l0, l1, l2, l3, l4, l5] (.int x :: st) σ Q ↔ if x ≠ 0 then G d 60 44 [l0, l1, l2, l3, l4, l5] st σ Q else G d 60 15 [l0, l1, l2, l3, l4, l5] st σ Q := gs_if f_60_14 rfl
theorem f_60_15 : ft 60 15 = some (28, .aload_n 0, []) := rfl
theorem s_60_15 {d : Nat} {σ : xS} {st : List Value} {Q : xR → xS → Prop} {l1 l2 l3 l4 l5 : Option Value} {x : Nat} : G d 60 15 [some (.ref x), l1, l2, l3, l4, l5] st σ Q ↔ G d 60 16 [some (.ref x), l1, l2, l3, l4, l5] (.ref x :: st) σ Q := gs_go f_60_15 rfl
theorem f_60_16 : ft 60 16 = some (29, .getfield 39, [4, 17, 0, 180]) := rfl
theorem s_60_16 {d : Nat} {t : yT} {st : List Value} {Q : xR → xS → Prop} {l0 l1 l2 l3 l4 l5 : Option Value} {a : Nat} (ho : yisO 4 a) : G d 60 16 [l0, l1, l2, l3, l4, l5] (.ref a :: st) (yemb t) Q ↔ G d 60 17 [l0, l1, l2, l3, l4, l5] (.ref (a + 10) :: st) (yemb t) Q := gs_getf (c := 4) (j := 17) (q := .c (a + 10)) f_60_16 ho rfl
theorem f_60_17 : ft 60 17 = some (32, .iload 4, []) := rfl
theorem s_60_17 {d : Nat} {σ : xS} {st : List Value} {Q : xR → xS → Prop} {l0 l1 l2 l3 l5 : Option Value} {x : Int32} : G d 60 17 [l0, l1, l2, l3, some (.int x), l5] st σ Q ↔ G d 60 18 [l0, l1, l2, l3, some (.int x), l5] (.int x :: st) σ Q := gs_go f_60_17 rfl
theorem f_60_18 : ft 60 18 = some (34, .iaload, []) := rfl
theorem s_60_18 {d : Nat} {t : yT} {st : List Value} {Q : xR → xS → Prop} {l0 l1 l2 l3 l4 l5 : Option Value} {a : Nat} {x : Int32} (ha : yA 0 a) : G d 60 18 [l0, l1, l2, l3, l4, l5] (.int x :: .ref a :: st) (yemb t) Q ↔ yix x (yn a) ∧ G d 60 19 [l0, l1, l2, l3, l4, l5] (.int (t.A a x.toNatClampNeg) :: st) (yemb t) Q := gs_iald f_60_18 ha
theorem f_60_19 : ft 60 19 = some (35, .ifCond .lt 18, [28]) := rfl
theorem s_60_19 {d : Nat} {σ : xS} {st : List Value} {Q : xR → xS → Prop} {l0 l1 l2 l3 l4 l5 : Option Value} {x : Int32} : G d 60 19 [l0, l1, l2, l3, l4, l5] (.int x :: st) σ Q ↔ if x < 0 then G d 60 28 [l0, l1, l2, l3, l4, l5] st σ Q else G d 60 20 [l0, l1, l2, l3, l4, l5] st σ Q := gs_if f_60_19 rfl
theorem f_60_20 : ft 60 20 = some (38, .aload_n 0, []) := rfl
theorem s_60_20 {d : Nat} {σ : xS} {st : List Value} {Q : xR → xS → Prop} {l1 l2 l3 l4 l5 : Option Value} {x : Nat} : G d 60 20 [some (.ref x), l1, l2, l3, l4, l5] st σ Q ↔ G d 60 21 [some (.ref x), l1, l2, l3, l4, l5] (.ref x :: st) σ Q := gs_go f_60_20 rfl
theorem f_60_21 : ft 60 21 = some (39, .getfield 15, [4, 1, 0, 144]) := rfl
theorem s_60_21 {d : Nat} {t : yT} {st : List Value} {Q : xR → xS → Prop} {l0 l1 l2 l3 l4 l5 : Option Value} {a : Nat} (ho : yisO 4 a) : G d 60 21 [l0, l1, l2, l3, l4, l5] (.ref a :: st) (yemb t) Q ↔ G d 60 22 [l0, l1, l2, l3, l4, l5] (.ref (a + 2) :: st) (yemb t) Q := gs_getf (c := 4) (j := 1) (q := .c (a + 2)) f_60_21 ho rfl
theorem f_60_22 : ft 60 22 = some (42, .aload_n 0, []) := rfl
theorem s_60_22 {d : Nat} {σ : xS} {st : List Value} {Q : xR → xS → Prop} {l1 l2 l3 l4 l5 : Option Value} {x : Nat} : G d 60 22 [some (.ref x), l1, l2, l3, l4, l5] st σ Q ↔ G d 60 23 [some (.ref x), l1, l2, l3, l4, l5] (.ref x :: st) σ Q := gs_go f_60_22 rfl
theorem f_60_23 : ft 60 23 = some (43, .getfield 39, [4, 17, 0, 180]) := rfl
theorem s_60_23 {d : Nat} {t : yT} {st : List Value} {Q : xR → xS → Prop} {l0 l1 l2 l3 l4 l5 : Option Value} {a : Nat} (ho : yisO 4 a) : G d 60 23 [l0, l1, l2, l3, l4, l5] (.ref a :: st) (yemb t) Q ↔ G d 60 24 [l0, l1, l2, l3, l4, l5] (.ref (a + 10) :: st) (yemb t) Q := gs_getf (c := 4) (j := 17) (q := .c (a + 10)) f_60_23 ho rfl
theorem f_60_24 : ft 60 24 = some (46, .iload 4, []) := rfl
theorem s_60_24 {d : Nat} {σ : xS} {st : List Value} {Q : xR → xS → Prop} {l0 l1 l2 l3 l5 : Option Value} {x : Int32} : G d 60 24 [l0, l1, l2, l3, some (.int x), l5] st σ Q ↔ G d 60 25 [l0, l1, l2, l3, some (.int x), l5] (.int x :: st) σ Q := gs_go f_60_24 rfl
theorem f_60_25 : ft 60 25 = some (48, .iaload, []) := rfl
theorem s_60_25 {d : Nat} {t : yT} {st : List Value} {Q : xR → xS → Prop} {l0 l1 l2 l3 l4 l5 : Option Value} {a : Nat} {x : Int32} (ha : yA 0 a) : G d 60 25 [l0, l1, l2, l3, l4, l5] (.int x :: .ref a :: st) (yemb t) Q ↔ yix x (yn a) ∧ G d 60 26 [l0, l1, l2, l3, l4, l5] (.int (t.A a x.toNatClampNeg) :: st) (yemb t) Q := gs_iald f_60_25 ha
theorem f_60_26 : ft 60 26 = some (49, .iaload, []) := rfl
theorem s_60_26 {d : Nat} {t : yT} {st : List Value} {Q : xR → xS → Prop} {l0 l1 l2 l3 l4 l5 : Option Value} {a : Nat} {x : Int32} (ha : yA 0 a) : G d 60 26 [l0, l1, l2, l3, l4, l5] (.int x :: .ref a :: st) (yemb t) Q ↔ yix x (yn a) ∧ G d 60 27 [l0, l1, l2, l3, l4, l5] (.int (t.A a x.toNatClampNeg) :: st) (yemb t) Q := gs_iald f_60_26 ha
theorem f_60_27 : ft 60 27 = some (50, .goto 10, [32]) := rfl
theorem s_60_27 {d : Nat} {σ : xS} {st : List Value} {Q : xR → xS → Prop} {l0 l1 l2 l3 l4 l5 : Option Value} : G d 60 27 [l0, l1, l2, l3, l4, l5] st σ Q ↔ G d 60 32 [l0, l1, l2, l3, l4, l5] st σ Q := gs_go f_60_27 rfl
theorem f_60_28 : ft 60 28 = some (53, .aload_n 0, []) := rfl
theorem s_60_28 {d : Nat} {σ : xS} {st : List Value} {Q : xR → xS → Prop} {l1 l2 l3 l4 l5 : Option Value} {x : Nat} : G d 60 28 [some (.ref x), l1, l2, l3, l4, l5] st σ Q ↔ G d 60 29 [some (.ref x), l1, l2, l3, l4, l5] (.ref x :: st) σ Q := gs_go f_60_28 rfl
theorem f_60_29 : ft 60 29 = some (54, .getfield 27, [4, 5, 0, 152]) := rfl
theorem s_60_29 {d : Nat} {t : yT} {st : List Value} {Q : xR → xS → Prop} {l0 l1 l2 l3 l4 l5 : Option Value} {a : Nat} (ho : yisO 4 a) : G d 60 29 [l0, l1, l2, l3, l4, l5] (.ref a :: st) (yemb t) Q ↔ G d 60 30 [l0, l1, l2, l3, l4, l5] (.ref (a + 6) :: st) (yemb t) Q := gs_getf (c := 4) (j := 5) (q := .c (a + 6)) f_60_29 ho rfl
theorem f_60_30 : ft 60 30 = some (57, .iload 4, []) := rfl
theorem s_60_30 {d : Nat} {σ : xS} {st : List Value} {Q : xR → xS → Prop} {l0 l1 l2 l3 l5 : Option Value} {x : Int32} : G d 60 30 [l0, l1, l2, l3, some (.int x), l5] st σ Q ↔ G d 60 31 [l0, l1, l2, l3, some (.int x), l5] (.int x :: st) σ Q := gs_go f_60_30 rfl
theorem f_60_31 : ft 60 31 = some (59, .iaload, []) := rfl
theorem s_60_31 {d : Nat} {t : yT} {st : List Value} {Q : xR → xS → Prop} {l0 l1 l2 l3 l4 l5 : Option Value} {a : Nat} {x : Int32} (ha : yA 0 a) : G d 60 31 [l0, l1, l2, l3, l4, l5] (.int x :: .ref a :: st) (yemb t) Q ↔ yix x (yn a) ∧ G d 60 32 [l0, l1, l2, l3, l4, l5] (.int (t.A a x.toNatClampNeg) :: st) (yemb t) Q := gs_iald f_60_31 ha
theorem f_60_32 : ft 60 32 = some (60, .istore 5, []) := rfl
theorem s_60_32 {d : Nat} {σ : xS} {st : List Value} {Q : xR → xS → Prop} {l0 l1 l2 l3 l4 l5 : Option Value} {x : Int32} : G d 60 32 [l0, l1, l2, l3, l4, l5] (.int x :: st) σ Q ↔ G d 60 33 [l0, l1, l2, l3, ykl l4, some (.int x)] st σ Q := by
  cases l4 with
  | none => exact gs_go f_60_32 rfl
  | some v => cases v <;> exact gs_go f_60_32 rfl
theorem f_60_33 : ft 60 33 = some (62, .aload_n 0, []) := rfl
theorem s_60_33 {d : Nat} {σ : xS} {st : List Value} {Q : xR → xS → Prop} {l1 l2 l3 l4 l5 : Option Value} {x : Nat} : G d 60 33 [some (.ref x), l1, l2, l3, l4, l5] st σ Q ↔ G d 60 34 [some (.ref x), l1, l2, l3, l4, l5] (.ref x :: st) σ Q := gs_go f_60_33 rfl
theorem f_60_34 : ft 60 34 = some (63, .iload 4, []) := rfl
theorem s_60_34 {d : Nat} {σ : xS} {st : List Value} {Q : xR → xS → Prop} {l0 l1 l2 l3 l5 : Option Value} {x : Int32} : G d 60 34 [l0, l1, l2, l3, some (.int x), l5] st σ Q ↔ G d 60 35 [l0, l1, l2, l3, some (.int x), l5] (.int x :: st) σ Q := gs_go f_60_34 rfl
theorem f_60_35 : ft 60 35 = some (65, .invokevirtual 153, [58, 2, 0, 1126]) := rfl
theorem s_60_35 {d : Nat} {t : yT} {st : List Value} {Q : xR → xS → Prop} {l0 l1 l2 l3 l4 l5 : Option Value} {a0 : Nat} {a1 : Int32} (ho : yisO 4 a0) : G (d + 1) 60 35 [l0, l1, l2, l3, l4, l5] (.int a1 :: .ref a0 :: st) (yemb t) Q ↔ xcat st ≤ 8 ∧ Cl d 58 [.ref a0, .int a1] (yemb t) (Gk (d + 1) 60 35 [l0, l1, l2, l3, l4, l5] st Q) := gs_call f_60_35 ((xinv_call (i := 35) (n := 1126) (ls := [l0, l1, l2, l3, l4, l5]) (kind := 0) (σ := yemb t) (by decide)).trans (xcall_vi [.int a1, .ref a0] rfl rfl (show (2 : Nat) ≤ 2 by decide) rfl ho))
theorem f_60_36 : ft 60 36 = some (68, .ifCond .ne 15, [43]) := rfl
theorem s_60_36 {d : Nat} {σ : xS} {st : List Value} {Q : xR → xS → Prop} {l0 l1 l2 l3 l4 l5 : Option Value} {x : Int32} : G d 60 36 [l0, l1, l2, l3, l4, l5] (.int x :: st) σ Q ↔ if x ≠ 0 then G d 60 43 [l0, l1, l2, l3, l4, l5] st σ Q else G d 60 37 [l0, l1, l2, l3, l4, l5] st σ Q := gs_if f_60_36 rfl
theorem f_60_37 : ft 60 37 = some (71, .iload 5, []) := rfl
theorem s_60_37 {d : Nat} {σ : xS} {st : List Value} {Q : xR → xS → Prop} {l0 l1 l2 l3 l4 : Option Value} {x : Int32} : G d 60 37 [l0, l1, l2, l3, l4, some (.int x)] st σ Q ↔ G d 60 38 [l0, l1, l2, l3, l4, some (.int x)] (.int x :: st) σ Q := gs_go f_60_37 rfl
theorem f_60_38 : ft 60 38 = some (73, .aload_n 0, []) := rfl
theorem s_60_38 {d : Nat} {σ : xS} {st : List Value} {Q : xR → xS → Prop} {l1 l2 l3 l4 l5 : Option Value} {x : Nat} : G d 60 38 [some (.ref x), l1, l2, l3, l4, l5] st σ Q ↔ G d 60 39 [some (.ref x), l1, l2, l3, l4, l5] (.ref x :: st) σ Q := gs_go f_60_38 rfl
theorem f_60_39 : ft 60 39 = some (74, .getfield 15, [4, 1, 0, 144]) := rfl
theorem s_60_39 {d : Nat} {t : yT} {st : List Value} {Q : xR → xS → Prop} {l0 l1 l2 l3 l4 l5 : Option Value} {a : Nat} (ho : yisO 4 a) : G d 60 39 [l0, l1, l2, l3, l4, l5] (.ref a :: st) (yemb t) Q ↔ G d 60 40 [l0, l1, l2, l3, l4, l5] (.ref (a + 2) :: st) (yemb t) Q := gs_getf (c := 4) (j := 1) (q := .c (a + 2)) f_60_39 ho rfl
theorem f_60_40 : ft 60 40 = some (77, .iload 4, []) := rfl
theorem s_60_40 {d : Nat} {σ : xS} {st : List Value} {Q : xR → xS → Prop} {l0 l1 l2 l3 l5 : Option Value} {x : Int32} : G d 60 40 [l0, l1, l2, l3, some (.int x), l5] st σ Q ↔ G d 60 41 [l0, l1, l2, l3, some (.int x), l5] (.int x :: st) σ Q := gs_go f_60_40 rfl
theorem f_60_41 : ft 60 41 = some (79, .iaload, []) := rfl
theorem s_60_41 {d : Nat} {t : yT} {st : List Value} {Q : xR → xS → Prop} {l0 l1 l2 l3 l4 l5 : Option Value} {a : Nat} {x : Int32} (ha : yA 0 a) : G d 60 41 [l0, l1, l2, l3, l4, l5] (.int x :: .ref a :: st) (yemb t) Q ↔ yix x (yn a) ∧ G d 60 42 [l0, l1, l2, l3, l4, l5] (.int (t.A a x.toNatClampNeg) :: st) (yemb t) Q := gs_iald f_60_41 ha
theorem f_60_42 : ft 60 42 = some (80, .if_icmp .eq 6, [44]) := rfl
theorem s_60_42 {d : Nat} {σ : xS} {st : List Value} {Q : xR → xS → Prop} {l0 l1 l2 l3 l4 l5 : Option Value} {x y : Int32} : G d 60 42 [l0, l1, l2, l3, l4, l5] (.int y :: .int x :: st) σ Q ↔ if x = y then G d 60 44 [l0, l1, l2, l3, l4, l5] st σ Q else G d 60 43 [l0, l1, l2, l3, l4, l5] st σ Q := gs_if f_60_42 rfl
theorem f_60_43 : ft 60 43 = some (83, .iinc 3 1, []) := rfl
theorem s_60_43 {d : Nat} {σ : xS} {st : List Value} {Q : xR → xS → Prop} {l0 l1 l2 l4 l5 : Option Value} {x : Int32} : G d 60 43 [l0, l1, l2, some (.int x), l4, l5] st σ Q ↔ G d 60 44 [l0, l1, ykl l2, some (.int (x + 1)), l4, l5] st σ Q := by
  cases l2 with
  | none => exact gs_go f_60_43 rfl
  | some v => cases v <;> exact gs_go f_60_43 rfl
theorem f_60_44 : ft 60 44 = some (86, .iinc 4 1, []) := rfl
theorem s_60_44 {d : Nat} {σ : xS} {st : List Value} {Q : xR → xS → Prop} {l0 l1 l2 l3 l5 : Option Value} {x : Int32} : G d 60 44 [l0, l1, l2, l3, some (.int x), l5] st σ Q ↔ G d 60 45 [l0, l1, l2, ykl l3, some (.int (x + 1)), l5] st σ Q := by
  cases l3 with
  | none => exact gs_go f_60_44 rfl
  | some v => cases v <;> exact gs_go f_60_44 rfl
theorem f_60_45 : ft 60 45 = some (89, .goto (-79), [7]) := rfl
theorem s_60_45 {d : Nat} {σ : xS} {st : List Value} {Q : xR → xS → Prop} {l0 l1 l2 l3 l4 l5 : Option Value} : G d 60 45 [l0, l1, l2, l3, l4, l5] st σ Q ↔ G d 60 7 [l0, l1, l2, l3, l4, l5] st σ Q := gs_go f_60_45 rfl
theorem f_60_46 : ft 60 46 = some (92, .iload_n 3, []) := rfl
theorem s_60_46 {d : Nat} {σ : xS} {st : List Value} {Q : xR → xS → Prop} {l0 l1 l2 l4 l5 : Option Value} {x : Int32} : G d 60 46 [l0, l1, l2, some (.int x), l4, l5] st σ Q ↔ G d 60 47 [l0, l1, l2, some (.int x), l4, l5] (.int x :: st) σ Q := gs_go f_60_46 rfl
theorem f_60_47 : ft 60 47 = some (93, .ireturn, []) := rfl
theorem s_60_47 {d : Nat} {σ : xS} {ls : xL} {Q : xR → xS → Prop} {x : Int32} : G d 60 47 ls [.int x] σ Q ↔ Q (.inl (some (.int x))) σ := gs_reti f_60_47 rfl
theorem f_61_0 : ft 61 0 = some (0, .aload_n 0, []) := rfl
theorem s_61_0 {d : Nat} {σ : xS} {st : List Value} {Q : xR → xS → Prop} {l1 l2 l3 l4 l5 l6 l7 l8 l9 l10 l11 l12 : Option Value} {x : Nat} : G d 61 0 [some (.ref x), l1, l2, l3, l4, l5, l6, l7, l8, l9, l10, l11, l12] st σ Q ↔ G d 61 1 [some (.ref x), l1, l2, l3, l4, l5, l6, l7, l8, l9, l10, l11, l12] (.ref x :: st) σ Q := gs_go f_61_0 rfl
theorem f_61_1 : ft 61 1 = some (1, .invokevirtual 156, [37, 1, 0, 1141]) := rfl
theorem s_61_1 {d : Nat} {t : yT} {st : List Value} {Q : xR → xS → Prop} {l0 l1 l2 l3 l4 l5 l6 l7 l8 l9 l10 l11 l12 : Option Value} {a0 : Nat} (ho : yisO 4 a0) : G (d + 1) 61 1 [l0, l1, l2, l3, l4, l5, l6, l7, l8, l9, l10, l11, l12] (.ref a0 :: st) (yemb t) Q ↔ xcat st ≤ 8 ∧ Cl d 37 [.ref a0] (yemb t) (Gk (d + 1) 61 1 [l0, l1, l2, l3, l4, l5, l6, l7, l8, l9, l10, l11, l12] st Q) := gs_call f_61_1 ((xinv_call (i := 1) (n := 1141) (ls := [l0, l1, l2, l3, l4, l5, l6, l7, l8, l9, l10, l11, l12]) (kind := 0) (σ := yemb t) (by decide)).trans (xcall_vi [.ref a0] rfl rfl (show (1 : Nat) ≤ 4 by decide) rfl ho))
theorem f_61_2 : ft 61 2 = some (4, .aload_n 0, []) := rfl
theorem s_61_2 {d : Nat} {σ : xS} {st : List Value} {Q : xR → xS → Prop} {l1 l2 l3 l4 l5 l6 l7 l8 l9 l10 l11 l12 : Option Value} {x : Nat} : G d 61 2 [some (.ref x), l1, l2, l3, l4, l5, l6, l7, l8, l9, l10, l11, l12] st σ Q ↔ G d 61 3 [some (.ref x), l1, l2, l3, l4, l5, l6, l7, l8, l9, l10, l11, l12] (.ref x :: st) σ Q := gs_go f_61_2 rfl
theorem f_61_3 : ft 61 3 = some (5, .getfield 62, [4, 15, 0, 176]) := rfl
theorem s_61_3 {d : Nat} {t : yT} {st : List Value} {Q : xR → xS → Prop} {l0 l1 l2 l3 l4 l5 l6 l7 l8 l9 l10 l11 l12 : Option Value} {a : Nat} (ho : yisO 4 a) : G d 61 3 [l0, l1, l2, l3, l4, l5, l6, l7, l8, l9, l10, l11, l12] (.ref a :: st) (yemb t) Q ↔ G d 61 4 [l0, l1, l2, l3, l4, l5, l6, l7, l8, l9, l10, l11, l12] (.long (t.L a 15) :: st) (yemb t) Q := gs_getf (c := 4) (j := 15) (q := .l) f_61_3 ho rfl
theorem f_61_4 : ft 61 4 = some (8, .ldc2_w 88, [(-1), 1053]) := rfl
theorem s_61_4 {d : Nat} {σ : xS} {st : List Value} {Q : xR → xS → Prop} {l0 l1 l2 l3 l4 l5 l6 l7 l8 l9 l10 l11 l12 : Option Value} : G d 61 4 [l0, l1, l2, l3, l4, l5, l6, l7, l8, l9, l10, l11, l12] st σ Q ↔ G d 61 5 [l0, l1, l2, l3, l4, l5, l6, l7, l8, l9, l10, l11, l12] (.long (-1) :: st) σ Q := gs_go f_61_4 rfl
theorem f_61_5 : ft 61 5 = some (11, .lxor, []) := rfl
theorem s_61_5 {d : Nat} {σ : xS} {st : List Value} {Q : xR → xS → Prop} {l0 l1 l2 l3 l4 l5 l6 l7 l8 l9 l10 l11 l12 : Option Value} {x y : Int64} : G d 61 5 [l0, l1, l2, l3, l4, l5, l6, l7, l8, l9, l10, l11, l12] (.long y :: .long x :: st) σ Q ↔ G d 61 6 [l0, l1, l2, l3, l4, l5, l6, l7, l8, l9, l10, l11, l12] (.long (x ^^^ y) :: st) σ Q := gs_go f_61_5 rfl
theorem f_61_6 : ft 61 6 = some (12, .land, []) := rfl
theorem s_61_6 {d : Nat} {σ : xS} {st : List Value} {Q : xR → xS → Prop} {l0 l1 l2 l3 l4 l5 l6 l7 l8 l9 l10 l11 l12 : Option Value} {x y : Int64} : G d 61 6 [l0, l1, l2, l3, l4, l5, l6, l7, l8, l9, l10, l11, l12] (.long y :: .long x :: st) σ Q ↔ G d 61 7 [l0, l1, l2, l3, l4, l5, l6, l7, l8, l9, l10, l11, l12] (.long (x &&& y) :: st) σ Q := gs_go f_61_6 rfl
theorem f_61_7 : ft 61 7 = some (13, .lstore_n 2, []) := rfl
theorem s_61_7 {d : Nat} {σ : xS} {st : List Value} {Q : xR → xS → Prop} {l0 l1 l2 l3 l4 l5 l6 l7 l8 l9 l10 l11 l12 : Option Value} {x : Int64} : G d 61 7 [l0, l1, l2, l3, l4, l5, l6, l7, l8, l9, l10, l11, l12] (.long x :: st) σ Q ↔ G d 61 8 [l0, ykl l1, some (.long x), none, l4, l5, l6, l7, l8, l9, l10, l11, l12] st σ Q := by
  cases l1 with
  | none => exact gs_go f_61_7 rfl
  | some v => cases v <;> exact gs_go f_61_7 rfl
theorem f_61_8 : ft 61 8 = some (14, .lconst 0, []) := rfl
theorem s_61_8 {d : Nat} {σ : xS} {st : List Value} {Q : xR → xS → Prop} {l0 l1 l2 l3 l4 l5 l6 l7 l8 l9 l10 l11 l12 : Option Value} : G d 61 8 [l0, l1, l2, l3, l4, l5, l6, l7, l8, l9, l10, l11, l12] st σ Q ↔ G d 61 9 [l0, l1, l2, l3, l4, l5, l6, l7, l8, l9, l10, l11, l12] (.long (0) :: st) σ Q := gs_go f_61_8 rfl
theorem f_61_9 : ft 61 9 = some (15, .lstore 4, []) := rfl
theorem s_61_9 {d : Nat} {σ : xS} {st : List Value} {Q : xR → xS → Prop} {l0 l1 l2 l3 l4 l5 l6 l7 l8 l9 l10 l11 l12 : Option Value} {x : Int64} : G d 61 9 [l0, l1, l2, l3, l4, l5, l6, l7, l8, l9, l10, l11, l12] (.long x :: st) σ Q ↔ G d 61 10 [l0, l1, l2, ykl l3, some (.long x), none, l6, l7, l8, l9, l10, l11, l12] st σ Q := by
  cases l3 with
  | none => exact gs_go f_61_9 rfl
  | some v => cases v <;> exact gs_go f_61_9 rfl
theorem f_61_10 : ft 61 10 = some (17, .bipush 41, []) := rfl
theorem s_61_10 {d : Nat} {σ : xS} {st : List Value} {Q : xR → xS → Prop} {l0 l1 l2 l3 l4 l5 l6 l7 l8 l9 l10 l11 l12 : Option Value} : G d 61 10 [l0, l1, l2, l3, l4, l5, l6, l7, l8, l9, l10, l11, l12] st σ Q ↔ G d 61 11 [l0, l1, l2, l3, l4, l5, l6, l7, l8, l9, l10, l11, l12] (.int (41) :: st) σ Q := gs_go f_61_10 rfl
theorem f_61_11 : ft 61 11 = some (19, .istore 6, []) := rfl
theorem s_61_11 {d : Nat} {σ : xS} {st : List Value} {Q : xR → xS → Prop} {l0 l1 l2 l3 l4 l5 l6 l7 l8 l9 l10 l11 l12 : Option Value} {x : Int32} : G d 61 11 [l0, l1, l2, l3, l4, l5, l6, l7, l8, l9, l10, l11, l12] (.int x :: st) σ Q ↔ G d 61 12 [l0, l1, l2, l3, l4, ykl l5, some (.int x), l7, l8, l9, l10, l11, l12] st σ Q := by
  cases l5 with
  | none => exact gs_go f_61_11 rfl
  | some v => cases v <;> exact gs_go f_61_11 rfl
theorem f_61_12 : ft 61 12 = some (21, .bipush 11, []) := rfl
theorem s_61_12 {d : Nat} {σ : xS} {st : List Value} {Q : xR → xS → Prop} {l0 l1 l2 l3 l4 l5 l6 l7 l8 l9 l10 l11 l12 : Option Value} : G d 61 12 [l0, l1, l2, l3, l4, l5, l6, l7, l8, l9, l10, l11, l12] st σ Q ↔ G d 61 13 [l0, l1, l2, l3, l4, l5, l6, l7, l8, l9, l10, l11, l12] (.int (11) :: st) σ Q := gs_go f_61_12 rfl
theorem f_61_13 : ft 61 13 = some (23, .istore 7, []) := rfl
theorem s_61_13 {d : Nat} {σ : xS} {st : List Value} {Q : xR → xS → Prop} {l0 l1 l2 l3 l4 l5 l6 l7 l8 l9 l10 l11 l12 : Option Value} {x : Int32} : G d 61 13 [l0, l1, l2, l3, l4, l5, l6, l7, l8, l9, l10, l11, l12] (.int x :: st) σ Q ↔ G d 61 14 [l0, l1, l2, l3, l4, l5, ykl l6, some (.int x), l8, l9, l10, l11, l12] st σ Q := by
  cases l6 with
  | none => exact gs_go f_61_13 rfl
  | some v => cases v <;> exact gs_go f_61_13 rfl
theorem f_61_14 : ft 61 14 = some (25, .lconst 0, []) := rfl
theorem s_61_14 {d : Nat} {σ : xS} {st : List Value} {Q : xR → xS → Prop} {l0 l1 l2 l3 l4 l5 l6 l7 l8 l9 l10 l11 l12 : Option Value} : G d 61 14 [l0, l1, l2, l3, l4, l5, l6, l7, l8, l9, l10, l11, l12] st σ Q ↔ G d 61 15 [l0, l1, l2, l3, l4, l5, l6, l7, l8, l9, l10, l11, l12] (.long (0) :: st) σ Q := gs_go f_61_14 rfl
theorem f_61_15 : ft 61 15 = some (26, .lstore 8, []) := rfl
theorem s_61_15 {d : Nat} {σ : xS} {st : List Value} {Q : xR → xS → Prop} {l0 l1 l2 l3 l4 l5 l6 l7 l8 l9 l10 l11 l12 : Option Value} {x : Int64} : G d 61 15 [l0, l1, l2, l3, l4, l5, l6, l7, l8, l9, l10, l11, l12] (.long x :: st) σ Q ↔ G d 61 16 [l0, l1, l2, l3, l4, l5, l6, ykl l7, some (.long x), none, l10, l11, l12] st σ Q := by
  cases l7 with
  | none => exact gs_go f_61_15 rfl
  | some v => cases v <;> exact gs_go f_61_15 rfl
theorem f_61_16 : ft 61 16 = some (28, .iconst 1, []) := rfl
theorem s_61_16 {d : Nat} {σ : xS} {st : List Value} {Q : xR → xS → Prop} {l0 l1 l2 l3 l4 l5 l6 l7 l8 l9 l10 l11 l12 : Option Value} : G d 61 16 [l0, l1, l2, l3, l4, l5, l6, l7, l8, l9, l10, l11, l12] st σ Q ↔ G d 61 17 [l0, l1, l2, l3, l4, l5, l6, l7, l8, l9, l10, l11, l12] (.int (1) :: st) σ Q := gs_go f_61_16 rfl
theorem f_61_17 : ft 61 17 = some (29, .bipush 10, []) := rfl
theorem s_61_17 {d : Nat} {σ : xS} {st : List Value} {Q : xR → xS → Prop} {l0 l1 l2 l3 l4 l5 l6 l7 l8 l9 l10 l11 l12 : Option Value} : G d 61 17 [l0, l1, l2, l3, l4, l5, l6, l7, l8, l9, l10, l11, l12] st σ Q ↔ G d 61 18 [l0, l1, l2, l3, l4, l5, l6, l7, l8, l9, l10, l11, l12] (.int (10) :: st) σ Q := gs_go f_61_17 rfl
theorem f_61_18 : ft 61 18 = some (31, .lload_n 2, []) := rfl
theorem s_61_18 {d : Nat} {σ : xS} {st : List Value} {Q : xR → xS → Prop} {l0 l1 l3 l4 l5 l6 l7 l8 l9 l10 l11 l12 : Option Value} {x : Int64} : G d 61 18 [l0, l1, some (.long x), l3, l4, l5, l6, l7, l8, l9, l10, l11, l12] st σ Q ↔ G d 61 19 [l0, l1, some (.long x), l3, l4, l5, l6, l7, l8, l9, l10, l11, l12] (.long x :: st) σ Q := gs_go f_61_18 rfl
theorem f_61_19 : ft 61 19 = some (32, .invokestatic 160, [216, 1, 1, 1145]) := rfl
theorem s_61_19 {d : Nat} {σ : xS} {st : List Value} {Q : xR → xS → Prop} {l0 l1 l2 l3 l4 l5 l6 l7 l8 l9 l10 l11 l12 : Option Value} {a0 : Int64} : G (d + 1) 61 19 [l0, l1, l2, l3, l4, l5, l6, l7, l8, l9, l10, l11, l12] (.long a0 :: st) σ Q ↔ xcat st ≤ 8 ∧ Cl d 216 [.long a0] σ (Gk (d + 1) 61 19 [l0, l1, l2, l3, l4, l5, l6, l7, l8, l9, l10, l11, l12] st Q) := gs_call f_61_19 ((xinv_call (i := 19) (n := 1145) (ls := [l0, l1, l2, l3, l4, l5, l6, l7, l8, l9, l10, l11, l12]) (kind := 1) (σ := σ) (by decide)).trans (xcall_st [.long a0] rfl (by decide) (show (2 : Nat) ≤ 2 by decide)))
theorem f_61_20 : ft 61 20 = some (35, .invokestatic 166, [0, 2, 25, 1146]) := rfl
theorem s_61_20 {d : Nat} {σ : xS} {st : List Value} {Q : xR → xS → Prop} {l0 l1 l2 l3 l4 l5 l6 l7 l8 l9 l10 l11 l12 : Option Value} {x y : Int32} (h : xcat st ≤ 8) : G d 61 20 [l0, l1, l2, l3, l4, l5, l6, l7, l8, l9, l10, l11, l12] (.int y :: .int x :: st) σ Q ↔ G d 61 21 [l0, l1, l2, l3, l4, l5, l6, l7, l8, l9, l10, l11, l12] (.int (if y < x then y else x) :: st) σ Q := gs_go f_61_20 (if_pos h)
theorem f_61_21 : ft 61 21 = some (38, .ishl, []) := rfl
theorem s_61_21 {d : Nat} {σ : xS} {st : List Value} {Q : xR → xS → Prop} {l0 l1 l2 l3 l4 l5 l6 l7 l8 l9 l10 l11 l12 : Option Value} {x y : Int32} : G d 61 21 [l0, l1, l2, l3, l4, l5, l6, l7, l8, l9, l10, l11, l12] (.int y :: .int x :: st) σ Q ↔ G d 61 22 [l0, l1, l2, l3, l4, l5, l6, l7, l8, l9, l10, l11, l12] (.int (x <<< (y &&& 31)) :: st) σ Q := gs_go f_61_21 rfl
theorem f_61_22 : ft 61 22 = some (39, .istore 10, []) := rfl
theorem s_61_22 {d : Nat} {σ : xS} {st : List Value} {Q : xR → xS → Prop} {l0 l1 l2 l3 l4 l5 l6 l7 l8 l9 l10 l11 l12 : Option Value} {x : Int32} : G d 61 22 [l0, l1, l2, l3, l4, l5, l6, l7, l8, l9, l10, l11, l12] (.int x :: st) σ Q ↔ G d 61 23 [l0, l1, l2, l3, l4, l5, l6, l7, l8, ykl l9, some (.int x), l11, l12] st σ Q := by
  cases l9 with
  | none => exact gs_go f_61_22 rfl
  | some v => cases v <;> exact gs_go f_61_22 rfl
theorem f_61_23 : ft 61 23 = some (41, .iload 10, []) := rfl
theorem s_61_23 {d : Nat} {σ : xS} {st : List Value} {Q : xR → xS → Prop} {l0 l1 l2 l3 l4 l5 l6 l7 l8 l9 l11 l12 : Option Value} {x : Int32} : G d 61 23 [l0, l1, l2, l3, l4, l5, l6, l7, l8, l9, some (.int x), l11, l12] st σ Q ↔ G d 61 24 [l0, l1, l2, l3, l4, l5, l6, l7, l8, l9, some (.int x), l11, l12] (.int x :: st) σ Q := gs_go f_61_23 rfl
theorem f_61_24 : ft 61 24 = some (43, .ifCond .le 76, [61]) := rfl
theorem s_61_24 {d : Nat} {σ : xS} {st : List Value} {Q : xR → xS → Prop} {l0 l1 l2 l3 l4 l5 l6 l7 l8 l9 l10 l11 l12 : Option Value} {x : Int32} : G d 61 24 [l0, l1, l2, l3, l4, l5, l6, l7, l8, l9, l10, l11, l12] (.int x :: st) σ Q ↔ if x ≤ 0 then G d 61 61 [l0, l1, l2, l3, l4, l5, l6, l7, l8, l9, l10, l11, l12] st σ Q else G d 61 25 [l0, l1, l2, l3, l4, l5, l6, l7, l8, l9, l10, l11, l12] st σ Q := gs_if f_61_24 rfl
theorem f_61_25 : ft 61 25 = some (46, .lload 8, []) := rfl
theorem s_61_25 {d : Nat} {σ : xS} {st : List Value} {Q : xR → xS → Prop} {l0 l1 l2 l3 l4 l5 l6 l7 l9 l10 l11 l12 : Option Value} {x : Int64} : G d 61 25 [l0, l1, l2, l3, l4, l5, l6, l7, some (.long x), l9, l10, l11, l12] st σ Q ↔ G d 61 26 [l0, l1, l2, l3, l4, l5, l6, l7, some (.long x), l9, l10, l11, l12] (.long x :: st) σ Q := gs_go f_61_25 rfl
theorem f_61_26 : ft 61 26 = some (48, .invokestatic 160, [216, 1, 1, 1145]) := rfl
theorem s_61_26 {d : Nat} {σ : xS} {st : List Value} {Q : xR → xS → Prop} {l0 l1 l2 l3 l4 l5 l6 l7 l8 l9 l10 l11 l12 : Option Value} {a0 : Int64} : G (d + 1) 61 26 [l0, l1, l2, l3, l4, l5, l6, l7, l8, l9, l10, l11, l12] (.long a0 :: st) σ Q ↔ xcat st ≤ 8 ∧ Cl d 216 [.long a0] σ (Gk (d + 1) 61 26 [l0, l1, l2, l3, l4, l5, l6, l7, l8, l9, l10, l11, l12] st Q) := gs_call f_61_26 ((xinv_call (i := 26) (n := 1145) (ls := [l0, l1, l2, l3, l4, l5, l6, l7, l8, l9, l10, l11, l12]) (kind := 1) (σ := σ) (by decide)).trans (xcall_st [.long a0] rfl (by decide) (show (2 : Nat) ≤ 2 by decide)))
theorem f_61_27 : ft 61 27 = some (51, .istore 11, []) := rfl
theorem s_61_27 {d : Nat} {σ : xS} {st : List Value} {Q : xR → xS → Prop} {l0 l1 l2 l3 l4 l5 l6 l7 l8 l9 l10 l11 l12 : Option Value} {x : Int32} : G d 61 27 [l0, l1, l2, l3, l4, l5, l6, l7, l8, l9, l10, l11, l12] (.int x :: st) σ Q ↔ G d 61 28 [l0, l1, l2, l3, l4, l5, l6, l7, l8, l9, ykl l10, some (.int x), l12] st σ Q := by
  cases l10 with
  | none => exact gs_go f_61_27 rfl
  | some v => cases v <;> exact gs_go f_61_27 rfl
theorem f_61_28 : ft 61 28 = some (53, .iload 11, []) := rfl
theorem s_61_28 {d : Nat} {σ : xS} {st : List Value} {Q : xR → xS → Prop} {l0 l1 l2 l3 l4 l5 l6 l7 l8 l9 l10 l12 : Option Value} {x : Int32} : G d 61 28 [l0, l1, l2, l3, l4, l5, l6, l7, l8, l9, l10, some (.int x), l12] st σ Q ↔ G d 61 29 [l0, l1, l2, l3, l4, l5, l6, l7, l8, l9, l10, some (.int x), l12] (.int x :: st) σ Q := gs_go f_61_28 rfl
theorem f_61_29 : ft 61 29 = some (55, .iload_n 1, []) := rfl
theorem s_61_29 {d : Nat} {σ : xS} {st : List Value} {Q : xR → xS → Prop} {l0 l2 l3 l4 l5 l6 l7 l8 l9 l10 l11 l12 : Option Value} {x : Int32} : G d 61 29 [l0, some (.int x), l2, l3, l4, l5, l6, l7, l8, l9, l10, l11, l12] st σ Q ↔ G d 61 30 [l0, some (.int x), l2, l3, l4, l5, l6, l7, l8, l9, l10, l11, l12] (.int x :: st) σ Q := gs_go f_61_29 rfl
theorem f_61_30 : ft 61 30 = some (56, .if_icmp .gt 49, [53]) := rfl
theorem s_61_30 {d : Nat} {σ : xS} {st : List Value} {Q : xR → xS → Prop} {l0 l1 l2 l3 l4 l5 l6 l7 l8 l9 l10 l11 l12 : Option Value} {x y : Int32} : G d 61 30 [l0, l1, l2, l3, l4, l5, l6, l7, l8, l9, l10, l11, l12] (.int y :: .int x :: st) σ Q ↔ if y < x then G d 61 53 [l0, l1, l2, l3, l4, l5, l6, l7, l8, l9, l10, l11, l12] st σ Q else G d 61 31 [l0, l1, l2, l3, l4, l5, l6, l7, l8, l9, l10, l11, l12] st σ Q := gs_if f_61_30 rfl
theorem f_61_31 : ft 61 31 = some (59, .aload_n 0, []) := rfl
theorem s_61_31 {d : Nat} {σ : xS} {st : List Value} {Q : xR → xS → Prop} {l1 l2 l3 l4 l5 l6 l7 l8 l9 l10 l11 l12 : Option Value} {x : Nat} : G d 61 31 [some (.ref x), l1, l2, l3, l4, l5, l6, l7, l8, l9, l10, l11, l12] st σ Q ↔ G d 61 32 [some (.ref x), l1, l2, l3, l4, l5, l6, l7, l8, l9, l10, l11, l12] (.ref x :: st) σ Q := gs_go f_61_31 rfl
theorem f_61_32 : ft 61 32 = some (60, .aload_n 0, []) := rfl
theorem s_61_32 {d : Nat} {σ : xS} {st : List Value} {Q : xR → xS → Prop} {l1 l2 l3 l4 l5 l6 l7 l8 l9 l10 l11 l12 : Option Value} {x : Nat} : G d 61 32 [some (.ref x), l1, l2, l3, l4, l5, l6, l7, l8, l9, l10, l11, l12] st σ Q ↔ G d 61 33 [some (.ref x), l1, l2, l3, l4, l5, l6, l7, l8, l9, l10, l11, l12] (.ref x :: st) σ Q := gs_go f_61_32 rfl
theorem f_61_33 : ft 61 33 = some (61, .getfield 62, [4, 15, 0, 176]) := rfl
theorem s_61_33 {d : Nat} {t : yT} {st : List Value} {Q : xR → xS → Prop} {l0 l1 l2 l3 l4 l5 l6 l7 l8 l9 l10 l11 l12 : Option Value} {a : Nat} (ho : yisO 4 a) : G d 61 33 [l0, l1, l2, l3, l4, l5, l6, l7, l8, l9, l10, l11, l12] (.ref a :: st) (yemb t) Q ↔ G d 61 34 [l0, l1, l2, l3, l4, l5, l6, l7, l8, l9, l10, l11, l12] (.long (t.L a 15) :: st) (yemb t) Q := gs_getf (c := 4) (j := 15) (q := .l) f_61_33 ho rfl
theorem f_61_34 : ft 61 34 = some (64, .lload 8, []) := rfl
theorem s_61_34 {d : Nat} {σ : xS} {st : List Value} {Q : xR → xS → Prop} {l0 l1 l2 l3 l4 l5 l6 l7 l9 l10 l11 l12 : Option Value} {x : Int64} : G d 61 34 [l0, l1, l2, l3, l4, l5, l6, l7, some (.long x), l9, l10, l11, l12] st σ Q ↔ G d 61 35 [l0, l1, l2, l3, l4, l5, l6, l7, some (.long x), l9, l10, l11, l12] (.long x :: st) σ Q := gs_go f_61_34 rfl
theorem f_61_35 : ft 61 35 = some (66, .lor, []) := rfl
theorem s_61_35 {d : Nat} {σ : xS} {st : List Value} {Q : xR → xS → Prop} {l0 l1 l2 l3 l4 l5 l6 l7 l8 l9 l10 l11 l12 : Option Value} {x y : Int64} : G d 61 35 [l0, l1, l2, l3, l4, l5, l6, l7, l8, l9, l10, l11, l12] (.long y :: .long x :: st) σ Q ↔ G d 61 36 [l0, l1, l2, l3, l4, l5, l6, l7, l8, l9, l10, l11, l12] (.long (x ||| y) :: st) σ Q := gs_go f_61_35 rfl
theorem f_61_36 : ft 61 36 = some (67, .invokevirtual 172, [60, 2, 0, 1147]) := rfl
theorem s_61_36 {d : Nat} {t : yT} {st : List Value} {Q : xR → xS → Prop} {l0 l1 l2 l3 l4 l5 l6 l7 l8 l9 l10 l11 l12 : Option Value} {a0 : Nat} {a1 : Int64} (ho : yisO 4 a0) : G (d + 1) 61 36 [l0, l1, l2, l3, l4, l5, l6, l7, l8, l9, l10, l11, l12] (.long a1 :: .ref a0 :: st) (yemb t) Q ↔ xcat st ≤ 8 ∧ Cl d 60 [.ref a0, .long a1] (yemb t) (Gk (d + 1) 61 36 [l0, l1, l2, l3, l4, l5, l6, l7, l8, l9, l10, l11, l12] st Q) := gs_call f_61_36 ((xinv_call (i := 36) (n := 1147) (ls := [l0, l1, l2, l3, l4, l5, l6, l7, l8, l9, l10, l11, l12]) (kind := 0) (σ := yemb t) (by decide)).trans (xcall_vi [.long a1, .ref a0] rfl rfl (show (3 : Nat) ≤ 6 by decide) rfl ho))
theorem f_61_37 : ft 61 37 = some (70, .istore 12, []) := rfl
theorem s_61_37 {d : Nat} {σ : xS} {st : List Value} {Q : xR → xS → Prop} {l0 l1 l2 l3 l4 l5 l6 l7 l8 l9 l10 l11 l12 : Option Value} {x : Int32} : G d 61 37 [l0, l1, l2, l3, l4, l5, l6, l7, l8, l9, l10, l11, l12] (.int x :: st) σ Q ↔ G d 61 38 [l0, l1, l2, l3, l4, l5, l6, l7, l8, l9, l10, ykl l11, some (.int x)] st σ Q := by
  cases l11 with
  | none => exact gs_go f_61_37 rfl
  | some v => cases v <;> exact gs_go f_61_37 rfl
theorem f_61_38 : ft 61 38 = some (72, .iload 12, []) := rfl
theorem s_61_38 {d : Nat} {σ : xS} {st : List Value} {Q : xR → xS → Prop} {l0 l1 l2 l3 l4 l5 l6 l7 l8 l9 l10 l11 : Option Value} {x : Int32} : G d 61 38 [l0, l1, l2, l3, l4, l5, l6, l7, l8, l9, l10, l11, some (.int x)] st σ Q ↔ G d 61 39 [l0, l1, l2, l3, l4, l5, l6, l7, l8, l9, l10, l11, some (.int x)] (.int x :: st) σ Q := gs_go f_61_38 rfl
theorem f_61_39 : ft 61 39 = some (74, .iload 6, []) := rfl
theorem s_61_39 {d : Nat} {σ : xS} {st : List Value} {Q : xR → xS → Prop} {l0 l1 l2 l3 l4 l5 l7 l8 l9 l10 l11 l12 : Option Value} {x : Int32} : G d 61 39 [l0, l1, l2, l3, l4, l5, some (.int x), l7, l8, l9, l10, l11, l12] st σ Q ↔ G d 61 40 [l0, l1, l2, l3, l4, l5, some (.int x), l7, l8, l9, l10, l11, l12] (.int x :: st) σ Q := gs_go f_61_39 rfl
theorem f_61_40 : ft 61 40 = some (76, .if_icmp .lt 17, [47]) := rfl
theorem s_61_40 {d : Nat} {σ : xS} {st : List Value} {Q : xR → xS → Prop} {l0 l1 l2 l3 l4 l5 l6 l7 l8 l9 l10 l11 l12 : Option Value} {x y : Int32} : G d 61 40 [l0, l1, l2, l3, l4, l5, l6, l7, l8, l9, l10, l11, l12] (.int y :: .int x :: st) σ Q ↔ if x < y then G d 61 47 [l0, l1, l2, l3, l4, l5, l6, l7, l8, l9, l10, l11, l12] st σ Q else G d 61 41 [l0, l1, l2, l3, l4, l5, l6, l7, l8, l9, l10, l11, l12] st σ Q := gs_if f_61_40 rfl
theorem f_61_41 : ft 61 41 = some (79, .iload 12, []) := rfl
theorem s_61_41 {d : Nat} {σ : xS} {st : List Value} {Q : xR → xS → Prop} {l0 l1 l2 l3 l4 l5 l6 l7 l8 l9 l10 l11 : Option Value} {x : Int32} : G d 61 41 [l0, l1, l2, l3, l4, l5, l6, l7, l8, l9, l10, l11, some (.int x)] st σ Q ↔ G d 61 42 [l0, l1, l2, l3, l4, l5, l6, l7, l8, l9, l10, l11, some (.int x)] (.int x :: st) σ Q := gs_go f_61_41 rfl
theorem f_61_42 : ft 61 42 = some (81, .iload 6, []) := rfl
theorem s_61_42 {d : Nat} {σ : xS} {st : List Value} {Q : xR → xS → Prop} {l0 l1 l2 l3 l4 l5 l7 l8 l9 l10 l11 l12 : Option Value} {x : Int32} : G d 61 42 [l0, l1, l2, l3, l4, l5, some (.int x), l7, l8, l9, l10, l11, l12] st σ Q ↔ G d 61 43 [l0, l1, l2, l3, l4, l5, some (.int x), l7, l8, l9, l10, l11, l12] (.int x :: st) σ Q := gs_go f_61_42 rfl
theorem f_61_43 : ft 61 43 = some (83, .if_icmp .ne 22, [53]) := rfl
theorem s_61_43 {d : Nat} {σ : xS} {st : List Value} {Q : xR → xS → Prop} {l0 l1 l2 l3 l4 l5 l6 l7 l8 l9 l10 l11 l12 : Option Value} {x y : Int32} : G d 61 43 [l0, l1, l2, l3, l4, l5, l6, l7, l8, l9, l10, l11, l12] (.int y :: .int x :: st) σ Q ↔ if x ≠ y then G d 61 53 [l0, l1, l2, l3, l4, l5, l6, l7, l8, l9, l10, l11, l12] st σ Q else G d 61 44 [l0, l1, l2, l3, l4, l5, l6, l7, l8, l9, l10, l11, l12] st σ Q := gs_if f_61_43 rfl
theorem f_61_44 : ft 61 44 = some (86, .iload 11, []) := rfl
theorem s_61_44 {d : Nat} {σ : xS} {st : List Value} {Q : xR → xS → Prop} {l0 l1 l2 l3 l4 l5 l6 l7 l8 l9 l10 l12 : Option Value} {x : Int32} : G d 61 44 [l0, l1, l2, l3, l4, l5, l6, l7, l8, l9, l10, some (.int x), l12] st σ Q ↔ G d 61 45 [l0, l1, l2, l3, l4, l5, l6, l7, l8, l9, l10, some (.int x), l12] (.int x :: st) σ Q := gs_go f_61_44 rfl
theorem f_61_45 : ft 61 45 = some (88, .iload 7, []) := rfl
theorem s_61_45 {d : Nat} {σ : xS} {st : List Value} {Q : xR → xS → Prop} {l0 l1 l2 l3 l4 l5 l6 l8 l9 l10 l11 l12 : Option Value} {x : Int32} : G d 61 45 [l0, l1, l2, l3, l4, l5, l6, some (.int x), l8, l9, l10, l11, l12] st σ Q ↔ G d 61 46 [l0, l1, l2, l3, l4, l5, l6, some (.int x), l8, l9, l10, l11, l12] (.int x :: st) σ Q := gs_go f_61_45 rfl
theorem f_61_46 : ft 61 46 = some (90, .if_icmp .ge 15, [53]) := rfl
theorem s_61_46 {d : Nat} {σ : xS} {st : List Value} {Q : xR → xS → Prop} {l0 l1 l2 l3 l4 l5 l6 l7 l8 l9 l10 l11 l12 : Option Value} {x y : Int32} : G d 61 46 [l0, l1, l2, l3, l4, l5, l6, l7, l8, l9, l10, l11, l12] (.int y :: .int x :: st) σ Q ↔ if y ≤ x then G d 61 53 [l0, l1, l2, l3, l4, l5, l6, l7, l8, l9, l10, l11, l12] st σ Q else G d 61 47 [l0, l1, l2, l3, l4, l5, l6, l7, l8, l9, l10, l11, l12] st σ Q := gs_if f_61_46 rfl
theorem f_61_47 : ft 61 47 = some (93, .lload 8, []) := rfl
theorem s_61_47 {d : Nat} {σ : xS} {st : List Value} {Q : xR → xS → Prop} {l0 l1 l2 l3 l4 l5 l6 l7 l9 l10 l11 l12 : Option Value} {x : Int64} : G d 61 47 [l0, l1, l2, l3, l4, l5, l6, l7, some (.long x), l9, l10, l11, l12] st σ Q ↔ G d 61 48 [l0, l1, l2, l3, l4, l5, l6, l7, some (.long x), l9, l10, l11, l12] (.long x :: st) σ Q := gs_go f_61_47 rfl
theorem f_61_48 : ft 61 48 = some (95, .lstore 4, []) := rfl
theorem s_61_48 {d : Nat} {σ : xS} {st : List Value} {Q : xR → xS → Prop} {l0 l1 l2 l3 l4 l5 l6 l7 l8 l9 l10 l11 l12 : Option Value} {x : Int64} : G d 61 48 [l0, l1, l2, l3, l4, l5, l6, l7, l8, l9, l10, l11, l12] (.long x :: st) σ Q ↔ G d 61 49 [l0, l1, l2, ykl l3, some (.long x), none, l6, l7, l8, l9, l10, l11, l12] st σ Q := by
  cases l3 with
  | none => exact gs_go f_61_48 rfl
  | some v => cases v <;> exact gs_go f_61_48 rfl
theorem f_61_49 : ft 61 49 = some (97, .iload 12, []) := rfl
theorem s_61_49 {d : Nat} {σ : xS} {st : List Value} {Q : xR → xS → Prop} {l0 l1 l2 l3 l4 l5 l6 l7 l8 l9 l10 l11 : Option Value} {x : Int32} : G d 61 49 [l0, l1, l2, l3, l4, l5, l6, l7, l8, l9, l10, l11, some (.int x)] st σ Q ↔ G d 61 50 [l0, l1, l2, l3, l4, l5, l6, l7, l8, l9, l10, l11, some (.int x)] (.int x :: st) σ Q := gs_go f_61_49 rfl
theorem f_61_50 : ft 61 50 = some (99, .istore 6, []) := rfl
theorem s_61_50 {d : Nat} {σ : xS} {st : List Value} {Q : xR → xS → Prop} {l0 l1 l2 l3 l4 l5 l6 l7 l8 l9 l10 l11 l12 : Option Value} {x : Int32} : G d 61 50 [l0, l1, l2, l3, l4, l5, l6, l7, l8, l9, l10, l11, l12] (.int x :: st) σ Q ↔ G d 61 51 [l0, l1, l2, l3, l4, ykl l5, some (.int x), l7, l8, l9, l10, l11, l12] st σ Q := by
  cases l5 with
  | none => exact gs_go f_61_50 rfl
  | some v => cases v <;> exact gs_go f_61_50 rfl
theorem f_61_51 : ft 61 51 = some (101, .iload 11, []) := rfl
theorem s_61_51 {d : Nat} {σ : xS} {st : List Value} {Q : xR → xS → Prop} {l0 l1 l2 l3 l4 l5 l6 l7 l8 l9 l10 l12 : Option Value} {x : Int32} : G d 61 51 [l0, l1, l2, l3, l4, l5, l6, l7, l8, l9, l10, some (.int x), l12] st σ Q ↔ G d 61 52 [l0, l1, l2, l3, l4, l5, l6, l7, l8, l9, l10, some (.int x), l12] (.int x :: st) σ Q := gs_go f_61_51 rfl
theorem f_61_52 : ft 61 52 = some (103, .istore 7, []) := rfl
theorem s_61_52 {d : Nat} {σ : xS} {st : List Value} {Q : xR → xS → Prop} {l0 l1 l2 l3 l4 l5 l6 l7 l8 l9 l10 l11 l12 : Option Value} {x : Int32} : G d 61 52 [l0, l1, l2, l3, l4, l5, l6, l7, l8, l9, l10, l11, l12] (.int x :: st) σ Q ↔ G d 61 53 [l0, l1, l2, l3, l4, l5, ykl l6, some (.int x), l8, l9, l10, l11, l12] st σ Q := by
  cases l6 with
  | none => exact gs_go f_61_52 rfl
  | some v => cases v <;> exact gs_go f_61_52 rfl
theorem f_61_53 : ft 61 53 = some (105, .lload 8, []) := rfl
theorem s_61_53 {d : Nat} {σ : xS} {st : List Value} {Q : xR → xS → Prop} {l0 l1 l2 l3 l4 l5 l6 l7 l9 l10 l11 l12 : Option Value} {x : Int64} : G d 61 53 [l0, l1, l2, l3, l4, l5, l6, l7, some (.long x), l9, l10, l11, l12] st σ Q ↔ G d 61 54 [l0, l1, l2, l3, l4, l5, l6, l7, some (.long x), l9, l10, l11, l12] (.long x :: st) σ Q := gs_go f_61_53 rfl
theorem f_61_54 : ft 61 54 = some (107, .lload_n 2, []) := rfl
theorem s_61_54 {d : Nat} {σ : xS} {st : List Value} {Q : xR → xS → Prop} {l0 l1 l3 l4 l5 l6 l7 l8 l9 l10 l11 l12 : Option Value} {x : Int64} : G d 61 54 [l0, l1, some (.long x), l3, l4, l5, l6, l7, l8, l9, l10, l11, l12] st σ Q ↔ G d 61 55 [l0, l1, some (.long x), l3, l4, l5, l6, l7, l8, l9, l10, l11, l12] (.long x :: st) σ Q := gs_go f_61_54 rfl
theorem f_61_55 : ft 61 55 = some (108, .lsub, []) := rfl
theorem s_61_55 {d : Nat} {σ : xS} {st : List Value} {Q : xR → xS → Prop} {l0 l1 l2 l3 l4 l5 l6 l7 l8 l9 l10 l11 l12 : Option Value} {x y : Int64} : G d 61 55 [l0, l1, l2, l3, l4, l5, l6, l7, l8, l9, l10, l11, l12] (.long y :: .long x :: st) σ Q ↔ G d 61 56 [l0, l1, l2, l3, l4, l5, l6, l7, l8, l9, l10, l11, l12] (.long (x - y) :: st) σ Q := gs_go f_61_55 rfl
theorem f_61_56 : ft 61 56 = some (109, .lload_n 2, []) := rfl
theorem s_61_56 {d : Nat} {σ : xS} {st : List Value} {Q : xR → xS → Prop} {l0 l1 l3 l4 l5 l6 l7 l8 l9 l10 l11 l12 : Option Value} {x : Int64} : G d 61 56 [l0, l1, some (.long x), l3, l4, l5, l6, l7, l8, l9, l10, l11, l12] st σ Q ↔ G d 61 57 [l0, l1, some (.long x), l3, l4, l5, l6, l7, l8, l9, l10, l11, l12] (.long x :: st) σ Q := gs_go f_61_56 rfl
theorem f_61_57 : ft 61 57 = some (110, .land, []) := rfl
theorem s_61_57 {d : Nat} {σ : xS} {st : List Value} {Q : xR → xS → Prop} {l0 l1 l2 l3 l4 l5 l6 l7 l8 l9 l10 l11 l12 : Option Value} {x y : Int64} : G d 61 57 [l0, l1, l2, l3, l4, l5, l6, l7, l8, l9, l10, l11, l12] (.long y :: .long x :: st) σ Q ↔ G d 61 58 [l0, l1, l2, l3, l4, l5, l6, l7, l8, l9, l10, l11, l12] (.long (x &&& y) :: st) σ Q := gs_go f_61_57 rfl
theorem f_61_58 : ft 61 58 = some (111, .lstore 8, []) := rfl
theorem s_61_58 {d : Nat} {σ : xS} {st : List Value} {Q : xR → xS → Prop} {l0 l1 l2 l3 l4 l5 l6 l7 l8 l9 l10 l11 l12 : Option Value} {x : Int64} : G d 61 58 [l0, l1, l2, l3, l4, l5, l6, l7, l8, l9, l10, l11, l12] (.long x :: st) σ Q ↔ G d 61 59 [l0, l1, l2, l3, l4, l5, l6, ykl l7, some (.long x), none, l10, l11, l12] st σ Q := by
  cases l7 with
  | none => exact gs_go f_61_58 rfl
  | some v => cases v <;> exact gs_go f_61_58 rfl
theorem f_61_59 : ft 61 59 = some (113, .iinc 10 (-1), []) := rfl
theorem s_61_59 {d : Nat} {σ : xS} {st : List Value} {Q : xR → xS → Prop} {l0 l1 l2 l3 l4 l5 l6 l7 l8 l9 l11 l12 : Option Value} {x : Int32} : G d 61 59 [l0, l1, l2, l3, l4, l5, l6, l7, l8, l9, some (.int x), l11, l12] st σ Q ↔ G d 61 60 [l0, l1, l2, l3, l4, l5, l6, l7, l8, ykl l9, some (.int (x + (-1))), l11, l12] st σ Q := by
  cases l9 with
  | none => exact gs_go f_61_59 rfl
  | some v => cases v <;> exact gs_go f_61_59 rfl
theorem f_61_60 : ft 61 60 = some (116, .goto (-75), [23]) := rfl
theorem s_61_60 {d : Nat} {σ : xS} {st : List Value} {Q : xR → xS → Prop} {l0 l1 l2 l3 l4 l5 l6 l7 l8 l9 l10 l11 l12 : Option Value} : G d 61 60 [l0, l1, l2, l3, l4, l5, l6, l7, l8, l9, l10, l11, l12] st σ Q ↔ G d 61 23 [l0, l1, l2, l3, l4, l5, l6, l7, l8, l9, l10, l11, l12] st σ Q := gs_go f_61_60 rfl
theorem f_61_61 : ft 61 61 = some (119, .lload 4, []) := rfl
theorem s_61_61 {d : Nat} {σ : xS} {st : List Value} {Q : xR → xS → Prop} {l0 l1 l2 l3 l5 l6 l7 l8 l9 l10 l11 l12 : Option Value} {x : Int64} : G d 61 61 [l0, l1, l2, l3, some (.long x), l5, l6, l7, l8, l9, l10, l11, l12] st σ Q ↔ G d 61 62 [l0, l1, l2, l3, some (.long x), l5, l6, l7, l8, l9, l10, l11, l12] (.long x :: st) σ Q := gs_go f_61_61 rfl
theorem f_61_62 : ft 61 62 = some (121, .lreturn, []) := rfl
theorem s_61_62 {d : Nat} {σ : xS} {ls : xL} {Q : xR → xS → Prop} {x : Int64} : G d 61 62 ls [.long x] σ Q ↔ Q (.inl (some (.long x))) σ := gs_ret f_61_62 rfl
theorem f_62_0 : ft 62 0 = some (0, .aload_n 0, []) := rfl
theorem s_62_0 {d : Nat} {σ : xS} {st : List Value} {Q : xR → xS → Prop} {l1 l2 : Option Value} {x : Nat} : G d 62 0 [some (.ref x), l1, l2] st σ Q ↔ G d 62 1 [some (.ref x), l1, l2] (.ref x :: st) σ Q := gs_go f_62_0 rfl
theorem f_62_1 : ft 62 1 = some (1, .iload_n 1, []) := rfl
theorem s_62_1 {d : Nat} {σ : xS} {st : List Value} {Q : xR → xS → Prop} {l0 l2 : Option Value} {x : Int32} : G d 62 1 [l0, some (.int x), l2] st σ Q ↔ G d 62 2 [l0, some (.int x), l2] (.int x :: st) σ Q := gs_go f_62_1 rfl
theorem f_62_2 : ft 62 2 = some (2, .invokevirtual 150, [34, 2, 0, 1092]) := rfl
theorem s_62_2 {d : Nat} {t : yT} {st : List Value} {Q : xR → xS → Prop} {l0 l1 l2 : Option Value} {a0 : Nat} {a1 : Int32} (ho : yisO 4 a0) : G (d + 1) 62 2 [l0, l1, l2] (.int a1 :: .ref a0 :: st) (yemb t) Q ↔ xcat st ≤ 8 ∧ Cl d 34 [.ref a0, .int a1] (yemb t) (Gk (d + 1) 62 2 [l0, l1, l2] st Q) := gs_call f_62_2 ((xinv_call (i := 2) (n := 1092) (ls := [l0, l1, l2]) (kind := 0) (σ := yemb t) (by decide)).trans (xcall_vi [.int a1, .ref a0] rfl rfl (show (2 : Nat) ≤ 2 by decide) rfl ho))
theorem f_62_3 : ft 62 3 = some (5, .ifCond .eq 5, [6]) := rfl
theorem s_62_3 {d : Nat} {σ : xS} {st : List Value} {Q : xR → xS → Prop} {l0 l1 l2 : Option Value} {x : Int32} : G d 62 3 [l0, l1, l2] (.int x :: st) σ Q ↔ if x = 0 then G d 62 6 [l0, l1, l2] st σ Q else G d 62 4 [l0, l1, l2] st σ Q := gs_if f_62_3 rfl
theorem f_62_4 : ft 62 4 = some (8, .iconst 1, []) := rfl
theorem s_62_4 {d : Nat} {σ : xS} {st : List Value} {Q : xR → xS → Prop} {l0 l1 l2 : Option Value} : G d 62 4 [l0, l1, l2] st σ Q ↔ G d 62 5 [l0, l1, l2] (.int (1) :: st) σ Q := gs_go f_62_4 rfl
theorem f_62_5 : ft 62 5 = some (9, .ireturn, []) := rfl
theorem s_62_5 {d : Nat} {σ : xS} {ls : xL} {Q : xR → xS → Prop} {x : Int32} : G d 62 5 ls [.int x] σ Q ↔ Q (.inl (some (.int x))) σ := gs_reti f_62_5 rfl
theorem f_62_6 : ft 62 6 = some (10, .aload_n 0, []) := rfl
theorem s_62_6 {d : Nat} {σ : xS} {st : List Value} {Q : xR → xS → Prop} {l1 l2 : Option Value} {x : Nat} : G d 62 6 [some (.ref x), l1, l2] st σ Q ↔ G d 62 7 [some (.ref x), l1, l2] (.ref x :: st) σ Q := gs_go f_62_6 rfl
theorem f_62_7 : ft 62 7 = some (11, .getfield 18, [4, 2, 0, 146]) := rfl
theorem s_62_7 {d : Nat} {t : yT} {st : List Value} {Q : xR → xS → Prop} {l0 l1 l2 : Option Value} {a : Nat} (ho : yisO 4 a) : G d 62 7 [l0, l1, l2] (.ref a :: st) (yemb t) Q ↔ G d 62 8 [l0, l1, l2] (.ref (a + 3) :: st) (yemb t) Q := gs_getf (c := 4) (j := 2) (q := .c (a + 3)) f_62_7 ho rfl
theorem f_62_8 : ft 62 8 = some (14, .iload_n 1, []) := rfl
theorem s_62_8 {d : Nat} {σ : xS} {st : List Value} {Q : xR → xS → Prop} {l0 l2 : Option Value} {x : Int32} : G d 62 8 [l0, some (.int x), l2] st σ Q ↔ G d 62 9 [l0, some (.int x), l2] (.int x :: st) σ Q := gs_go f_62_8 rfl
theorem f_62_9 : ft 62 9 = some (15, .iaload, []) := rfl
theorem s_62_9 {d : Nat} {t : yT} {st : List Value} {Q : xR → xS → Prop} {l0 l1 l2 : Option Value} {a : Nat} {x : Int32} (ha : yA 0 a) : G d 62 9 [l0, l1, l2] (.int x :: .ref a :: st) (yemb t) Q ↔ yix x (yn a) ∧ G d 62 10 [l0, l1, l2] (.int (t.A a x.toNatClampNeg) :: st) (yemb t) Q := gs_iald f_62_9 ha
theorem f_62_10 : ft 62 10 = some (16, .iconst 1, []) := rfl
theorem s_62_10 {d : Nat} {σ : xS} {st : List Value} {Q : xR → xS → Prop} {l0 l1 l2 : Option Value} : G d 62 10 [l0, l1, l2] st σ Q ↔ G d 62 11 [l0, l1, l2] (.int (1) :: st) σ Q := gs_go f_62_10 rfl
theorem f_62_11 : ft 62 11 = some (17, .if_icmp .ne 5, [14]) := rfl
theorem s_62_11 {d : Nat} {σ : xS} {st : List Value} {Q : xR → xS → Prop} {l0 l1 l2 : Option Value} {x y : Int32} : G d 62 11 [l0, l1, l2] (.int y :: .int x :: st) σ Q ↔ if x ≠ y then G d 62 14 [l0, l1, l2] st σ Q else G d 62 12 [l0, l1, l2] st σ Q := gs_if f_62_11 rfl
theorem f_62_12 : ft 62 12 = some (20, .iconst 2, []) := rfl
theorem s_62_12 {d : Nat} {σ : xS} {st : List Value} {Q : xR → xS → Prop} {l0 l1 l2 : Option Value} : G d 62 12 [l0, l1, l2] st σ Q ↔ G d 62 13 [l0, l1, l2] (.int (2) :: st) σ Q := gs_go f_62_12 rfl
theorem f_62_13 : ft 62 13 = some (21, .ireturn, []) := rfl
theorem s_62_13 {d : Nat} {σ : xS} {ls : xL} {Q : xR → xS → Prop} {x : Int32} : G d 62 13 ls [.int x] σ Q ↔ Q (.inl (some (.int x))) σ := gs_reti f_62_13 rfl
theorem f_62_14 : ft 62 14 = some (22, .aload_n 0, []) := rfl
theorem s_62_14 {d : Nat} {σ : xS} {st : List Value} {Q : xR → xS → Prop} {l1 l2 : Option Value} {x : Nat} : G d 62 14 [some (.ref x), l1, l2] st σ Q ↔ G d 62 15 [some (.ref x), l1, l2] (.ref x :: st) σ Q := gs_go f_62_14 rfl
theorem f_62_15 : ft 62 15 = some (23, .getfield 18, [4, 2, 0, 146]) := rfl
theorem s_62_15 {d : Nat} {t : yT} {st : List Value} {Q : xR → xS → Prop} {l0 l1 l2 : Option Value} {a : Nat} (ho : yisO 4 a) : G d 62 15 [l0, l1, l2] (.ref a :: st) (yemb t) Q ↔ G d 62 16 [l0, l1, l2] (.ref (a + 3) :: st) (yemb t) Q := gs_getf (c := 4) (j := 2) (q := .c (a + 3)) f_62_15 ho rfl
theorem f_62_16 : ft 62 16 = some (26, .iload_n 1, []) := rfl
theorem s_62_16 {d : Nat} {σ : xS} {st : List Value} {Q : xR → xS → Prop} {l0 l2 : Option Value} {x : Int32} : G d 62 16 [l0, some (.int x), l2] st σ Q ↔ G d 62 17 [l0, some (.int x), l2] (.int x :: st) σ Q := gs_go f_62_16 rfl
theorem f_62_17 : ft 62 17 = some (27, .iaload, []) := rfl
theorem s_62_17 {d : Nat} {t : yT} {st : List Value} {Q : xR → xS → Prop} {l0 l1 l2 : Option Value} {a : Nat} {x : Int32} (ha : yA 0 a) : G d 62 17 [l0, l1, l2] (.int x :: .ref a :: st) (yemb t) Q ↔ yix x (yn a) ∧ G d 62 18 [l0, l1, l2] (.int (t.A a x.toNatClampNeg) :: st) (yemb t) Q := gs_iald f_62_17 ha
theorem f_62_18 : ft 62 18 = some (28, .iconst 2, []) := rfl
theorem s_62_18 {d : Nat} {σ : xS} {st : List Value} {Q : xR → xS → Prop} {l0 l1 l2 : Option Value} : G d 62 18 [l0, l1, l2] st σ Q ↔ G d 62 19 [l0, l1, l2] (.int (2) :: st) σ Q := gs_go f_62_18 rfl
theorem f_62_19 : ft 62 19 = some (29, .if_icmp .ne 5, [22]) := rfl
theorem s_62_19 {d : Nat} {σ : xS} {st : List Value} {Q : xR → xS → Prop} {l0 l1 l2 : Option Value} {x y : Int32} : G d 62 19 [l0, l1, l2] (.int y :: .int x :: st) σ Q ↔ if x ≠ y then G d 62 22 [l0, l1, l2] st σ Q else G d 62 20 [l0, l1, l2] st σ Q := gs_if f_62_19 rfl
theorem f_62_20 : ft 62 20 = some (32, .iconst 3, []) := rfl
theorem s_62_20 {d : Nat} {σ : xS} {st : List Value} {Q : xR → xS → Prop} {l0 l1 l2 : Option Value} : G d 62 20 [l0, l1, l2] st σ Q ↔ G d 62 21 [l0, l1, l2] (.int (3) :: st) σ Q := gs_go f_62_20 rfl
theorem f_62_21 : ft 62 21 = some (33, .ireturn, []) := rfl
theorem s_62_21 {d : Nat} {σ : xS} {ls : xL} {Q : xR → xS → Prop} {x : Int32} : G d 62 21 ls [.int x] σ Q ↔ Q (.inl (some (.int x))) σ := gs_reti f_62_21 rfl
theorem f_62_22 : ft 62 22 = some (34, .aload_n 0, []) := rfl
theorem s_62_22 {d : Nat} {σ : xS} {st : List Value} {Q : xR → xS → Prop} {l1 l2 : Option Value} {x : Nat} : G d 62 22 [some (.ref x), l1, l2] st σ Q ↔ G d 62 23 [some (.ref x), l1, l2] (.ref x :: st) σ Q := gs_go f_62_22 rfl
theorem f_62_23 : ft 62 23 = some (35, .getfield 30, [4, 6, 0, 154]) := rfl
theorem s_62_23 {d : Nat} {t : yT} {st : List Value} {Q : xR → xS → Prop} {l0 l1 l2 : Option Value} {a : Nat} (ho : yisO 4 a) : G d 62 23 [l0, l1, l2] (.ref a :: st) (yemb t) Q ↔ G d 62 24 [l0, l1, l2] (.ref (a + 7) :: st) (yemb t) Q := gs_getf (c := 4) (j := 6) (q := .c (a + 7)) f_62_23 ho rfl
theorem f_62_24 : ft 62 24 = some (38, .iload_n 1, []) := rfl
theorem s_62_24 {d : Nat} {σ : xS} {st : List Value} {Q : xR → xS → Prop} {l0 l2 : Option Value} {x : Int32} : G d 62 24 [l0, some (.int x), l2] st σ Q ↔ G d 62 25 [l0, some (.int x), l2] (.int x :: st) σ Q := gs_go f_62_24 rfl
theorem f_62_25 : ft 62 25 = some (39, .iaload, []) := rfl
theorem s_62_25 {d : Nat} {t : yT} {st : List Value} {Q : xR → xS → Prop} {l0 l1 l2 : Option Value} {a : Nat} {x : Int32} (ha : yA 0 a) : G d 62 25 [l0, l1, l2] (.int x :: .ref a :: st) (yemb t) Q ↔ yix x (yn a) ∧ G d 62 26 [l0, l1, l2] (.int (t.A a x.toNatClampNeg) :: st) (yemb t) Q := gs_iald f_62_25 ha
theorem f_62_26 : ft 62 26 = some (40, .ifCond .ge 5, [29]) := rfl
theorem s_62_26 {d : Nat} {σ : xS} {st : List Value} {Q : xR → xS → Prop} {l0 l1 l2 : Option Value} {x : Int32} : G d 62 26 [l0, l1, l2] (.int x :: st) σ Q ↔ if 0 ≤ x then G d 62 29 [l0, l1, l2] st σ Q else G d 62 27 [l0, l1, l2] st σ Q := gs_if f_62_26 rfl
theorem f_62_27 : ft 62 27 = some (43, .iconst 4, []) := rfl
theorem s_62_27 {d : Nat} {σ : xS} {st : List Value} {Q : xR → xS → Prop} {l0 l1 l2 : Option Value} : G d 62 27 [l0, l1, l2] st σ Q ↔ G d 62 28 [l0, l1, l2] (.int (4) :: st) σ Q := gs_go f_62_27 rfl
theorem f_62_28 : ft 62 28 = some (44, .ireturn, []) := rfl
theorem s_62_28 {d : Nat} {σ : xS} {ls : xL} {Q : xR → xS → Prop} {x : Int32} : G d 62 28 ls [.int x] σ Q ↔ Q (.inl (some (.int x))) σ := gs_reti f_62_28 rfl
theorem f_62_29 : ft 62 29 = some (45, .aload_n 0, []) := rfl
theorem s_62_29 {d : Nat} {σ : xS} {st : List Value} {Q : xR → xS → Prop} {l1 l2 : Option Value} {x : Nat} : G d 62 29 [some (.ref x), l1, l2] st σ Q ↔ G d 62 30 [some (.ref x), l1, l2] (.ref x :: st) σ Q := gs_go f_62_29 rfl
theorem f_62_30 : ft 62 30 = some (46, .getfield 27, [4, 5, 0, 152]) := rfl
theorem s_62_30 {d : Nat} {t : yT} {st : List Value} {Q : xR → xS → Prop} {l0 l1 l2 : Option Value} {a : Nat} (ho : yisO 4 a) : G d 62 30 [l0, l1, l2] (.ref a :: st) (yemb t) Q ↔ G d 62 31 [l0, l1, l2] (.ref (a + 6) :: st) (yemb t) Q := gs_getf (c := 4) (j := 5) (q := .c (a + 6)) f_62_30 ho rfl
theorem f_62_31 : ft 62 31 = some (49, .iload_n 1, []) := rfl
theorem s_62_31 {d : Nat} {σ : xS} {st : List Value} {Q : xR → xS → Prop} {l0 l2 : Option Value} {x : Int32} : G d 62 31 [l0, some (.int x), l2] st σ Q ↔ G d 62 32 [l0, some (.int x), l2] (.int x :: st) σ Q := gs_go f_62_31 rfl
theorem f_62_32 : ft 62 32 = some (50, .iaload, []) := rfl
theorem s_62_32 {d : Nat} {t : yT} {st : List Value} {Q : xR → xS → Prop} {l0 l1 l2 : Option Value} {a : Nat} {x : Int32} (ha : yA 0 a) : G d 62 32 [l0, l1, l2] (.int x :: .ref a :: st) (yemb t) Q ↔ yix x (yn a) ∧ G d 62 33 [l0, l1, l2] (.int (t.A a x.toNatClampNeg) :: st) (yemb t) Q := gs_iald f_62_32 ha
theorem f_62_33 : ft 62 33 = some (51, .aload_n 0, []) := rfl
theorem s_62_33 {d : Nat} {σ : xS} {st : List Value} {Q : xR → xS → Prop} {l1 l2 : Option Value} {x : Nat} : G d 62 33 [some (.ref x), l1, l2] st σ Q ↔ G d 62 34 [some (.ref x), l1, l2] (.ref x :: st) σ Q := gs_go f_62_33 rfl
theorem f_62_34 : ft 62 34 = some (52, .getfield 15, [4, 1, 0, 144]) := rfl
theorem s_62_34 {d : Nat} {t : yT} {st : List Value} {Q : xR → xS → Prop} {l0 l1 l2 : Option Value} {a : Nat} (ho : yisO 4 a) : G d 62 34 [l0, l1, l2] (.ref a :: st) (yemb t) Q ↔ G d 62 35 [l0, l1, l2] (.ref (a + 2) :: st) (yemb t) Q := gs_getf (c := 4) (j := 1) (q := .c (a + 2)) f_62_34 ho rfl
theorem f_62_35 : ft 62 35 = some (55, .iload_n 1, []) := rfl
theorem s_62_35 {d : Nat} {σ : xS} {st : List Value} {Q : xR → xS → Prop} {l0 l2 : Option Value} {x : Int32} : G d 62 35 [l0, some (.int x), l2] st σ Q ↔ G d 62 36 [l0, some (.int x), l2] (.int x :: st) σ Q := gs_go f_62_35 rfl
theorem f_62_36 : ft 62 36 = some (56, .iaload, []) := rfl
theorem s_62_36 {d : Nat} {t : yT} {st : List Value} {Q : xR → xS → Prop} {l0 l1 l2 : Option Value} {a : Nat} {x : Int32} (ha : yA 0 a) : G d 62 36 [l0, l1, l2] (.int x :: .ref a :: st) (yemb t) Q ↔ yix x (yn a) ∧ G d 62 37 [l0, l1, l2] (.int (t.A a x.toNatClampNeg) :: st) (yemb t) Q := gs_iald f_62_36 ha
theorem f_62_37 : ft 62 37 = some (57, .if_icmp .eq 31, [54]) := rfl
theorem s_62_37 {d : Nat} {σ : xS} {st : List Value} {Q : xR → xS → Prop} {l0 l1 l2 : Option Value} {x y : Int32} : G d 62 37 [l0, l1, l2] (.int y :: .int x :: st) σ Q ↔ if x = y then G d 62 54 [l0, l1, l2] st σ Q else G d 62 38 [l0, l1, l2] st σ Q := gs_if f_62_37 rfl
theorem f_62_38 : ft 62 38 = some (60, .aload_n 0, []) := rfl
theorem s_62_38 {d : Nat} {σ : xS} {st : List Value} {Q : xR → xS → Prop} {l1 l2 : Option Value} {x : Nat} : G d 62 38 [some (.ref x), l1, l2] st σ Q ↔ G d 62 39 [some (.ref x), l1, l2] (.ref x :: st) σ Q := gs_go f_62_38 rfl
theorem f_62_39 : ft 62 39 = some (61, .iload_n 1, []) := rfl
theorem s_62_39 {d : Nat} {σ : xS} {st : List Value} {Q : xR → xS → Prop} {l0 l2 : Option Value} {x : Int32} : G d 62 39 [l0, some (.int x), l2] st σ Q ↔ G d 62 40 [l0, some (.int x), l2] (.int x :: st) σ Q := gs_go f_62_39 rfl
theorem f_62_40 : ft 62 40 = some (62, .invokevirtual 175, [63, 2, 0, 1096]) := rfl
theorem s_62_40 {d : Nat} {t : yT} {st : List Value} {Q : xR → xS → Prop} {l0 l1 l2 : Option Value} {a0 : Nat} {a1 : Int32} (ho : yisO 4 a0) : G (d + 1) 62 40 [l0, l1, l2] (.int a1 :: .ref a0 :: st) (yemb t) Q ↔ xcat st ≤ 8 ∧ Cl d 63 [.ref a0, .int a1] (yemb t) (Gk (d + 1) 62 40 [l0, l1, l2] st Q) := gs_call f_62_40 ((xinv_call (i := 40) (n := 1096) (ls := [l0, l1, l2]) (kind := 0) (σ := yemb t) (by decide)).trans (xcall_vi [.int a1, .ref a0] rfl rfl (show (2 : Nat) ≤ 3 by decide) rfl ho))
theorem f_62_41 : ft 62 41 = some (65, .ifCond .eq 5, [44]) := rfl
theorem s_62_41 {d : Nat} {σ : xS} {st : List Value} {Q : xR → xS → Prop} {l0 l1 l2 : Option Value} {x : Int32} : G d 62 41 [l0, l1, l2] (.int x :: st) σ Q ↔ if x = 0 then G d 62 44 [l0, l1, l2] st σ Q else G d 62 42 [l0, l1, l2] st σ Q := gs_if f_62_41 rfl
theorem f_62_42 : ft 62 42 = some (68, .iconst 5, []) := rfl
theorem s_62_42 {d : Nat} {σ : xS} {st : List Value} {Q : xR → xS → Prop} {l0 l1 l2 : Option Value} : G d 62 42 [l0, l1, l2] st σ Q ↔ G d 62 43 [l0, l1, l2] (.int (5) :: st) σ Q := gs_go f_62_42 rfl
theorem f_62_43 : ft 62 43 = some (69, .ireturn, []) := rfl
theorem s_62_43 {d : Nat} {σ : xS} {ls : xL} {Q : xR → xS → Prop} {x : Int32} : G d 62 43 ls [.int x] σ Q ↔ Q (.inl (some (.int x))) σ := gs_reti f_62_43 rfl
theorem f_62_44 : ft 62 44 = some (70, .aload_n 0, []) := rfl
theorem s_62_44 {d : Nat} {σ : xS} {st : List Value} {Q : xR → xS → Prop} {l1 l2 : Option Value} {x : Nat} : G d 62 44 [some (.ref x), l1, l2] st σ Q ↔ G d 62 45 [some (.ref x), l1, l2] (.ref x :: st) σ Q := gs_go f_62_44 rfl
theorem f_62_45 : ft 62 45 = some (71, .getfield 30, [4, 6, 0, 154]) := rfl
theorem s_62_45 {d : Nat} {t : yT} {st : List Value} {Q : xR → xS → Prop} {l0 l1 l2 : Option Value} {a : Nat} (ho : yisO 4 a) : G d 62 45 [l0, l1, l2] (.ref a :: st) (yemb t) Q ↔ G d 62 46 [l0, l1, l2] (.ref (a + 7) :: st) (yemb t) Q := gs_getf (c := 4) (j := 6) (q := .c (a + 7)) f_62_45 ho rfl
theorem f_62_46 : ft 62 46 = some (74, .iload_n 1, []) := rfl
theorem s_62_46 {d : Nat} {σ : xS} {st : List Value} {Q : xR → xS → Prop} {l0 l2 : Option Value} {x : Int32} : G d 62 46 [l0, some (.int x), l2] st σ Q ↔ G d 62 47 [l0, some (.int x), l2] (.int x :: st) σ Q := gs_go f_62_46 rfl
theorem f_62_47 : ft 62 47 = some (75, .iaload, []) := rfl
theorem s_62_47 {d : Nat} {t : yT} {st : List Value} {Q : xR → xS → Prop} {l0 l1 l2 : Option Value} {a : Nat} {x : Int32} (ha : yA 0 a) : G d 62 47 [l0, l1, l2] (.int x :: .ref a :: st) (yemb t) Q ↔ yix x (yn a) ∧ G d 62 48 [l0, l1, l2] (.int (t.A a x.toNatClampNeg) :: st) (yemb t) Q := gs_iald f_62_47 ha
theorem f_62_48 : ft 62 48 = some (76, .iload_n 1, []) := rfl
theorem s_62_48 {d : Nat} {σ : xS} {st : List Value} {Q : xR → xS → Prop} {l0 l2 : Option Value} {x : Int32} : G d 62 48 [l0, some (.int x), l2] st σ Q ↔ G d 62 49 [l0, some (.int x), l2] (.int x :: st) σ Q := gs_go f_62_48 rfl
theorem f_62_49 : ft 62 49 = some (77, .if_icmp .eq 8, [52]) := rfl
theorem s_62_49 {d : Nat} {σ : xS} {st : List Value} {Q : xR → xS → Prop} {l0 l1 l2 : Option Value} {x y : Int32} : G d 62 49 [l0, l1, l2] (.int y :: .int x :: st) σ Q ↔ if x = y then G d 62 52 [l0, l1, l2] st σ Q else G d 62 50 [l0, l1, l2] st σ Q := gs_if f_62_49 rfl
theorem f_62_50 : ft 62 50 = some (80, .bipush 6, []) := rfl
theorem s_62_50 {d : Nat} {σ : xS} {st : List Value} {Q : xR → xS → Prop} {l0 l1 l2 : Option Value} : G d 62 50 [l0, l1, l2] st σ Q ↔ G d 62 51 [l0, l1, l2] (.int (6) :: st) σ Q := gs_go f_62_50 rfl
theorem f_62_51 : ft 62 51 = some (82, .goto 5, [53]) := rfl
theorem s_62_51 {d : Nat} {σ : xS} {st : List Value} {Q : xR → xS → Prop} {l0 l1 l2 : Option Value} : G d 62 51 [l0, l1, l2] st σ Q ↔ G d 62 53 [l0, l1, l2] st σ Q := gs_go f_62_51 rfl
theorem f_62_52 : ft 62 52 = some (85, .bipush 7, []) := rfl
theorem s_62_52 {d : Nat} {σ : xS} {st : List Value} {Q : xR → xS → Prop} {l0 l1 l2 : Option Value} : G d 62 52 [l0, l1, l2] st σ Q ↔ G d 62 53 [l0, l1, l2] (.int (7) :: st) σ Q := gs_go f_62_52 rfl
theorem f_62_53 : ft 62 53 = some (87, .ireturn, []) := rfl
theorem s_62_53 {d : Nat} {σ : xS} {ls : xL} {Q : xR → xS → Prop} {x : Int32} : G d 62 53 ls [.int x] σ Q ↔ Q (.inl (some (.int x))) σ := gs_reti f_62_53 rfl
theorem f_62_54 : ft 62 54 = some (88, .aload_n 0, []) := rfl
theorem s_62_54 {d : Nat} {σ : xS} {st : List Value} {Q : xR → xS → Prop} {l1 l2 : Option Value} {x : Nat} : G d 62 54 [some (.ref x), l1, l2] st σ Q ↔ G d 62 55 [some (.ref x), l1, l2] (.ref x :: st) σ Q := gs_go f_62_54 rfl
theorem f_62_55 : ft 62 55 = some (89, .iload_n 1, []) := rfl
theorem s_62_55 {d : Nat} {σ : xS} {st : List Value} {Q : xR → xS → Prop} {l0 l2 : Option Value} {x : Int32} : G d 62 55 [l0, some (.int x), l2] st σ Q ↔ G d 62 56 [l0, some (.int x), l2] (.int x :: st) σ Q := gs_go f_62_55 rfl
theorem f_62_56 : ft 62 56 = some (90, .invokevirtual 107, [42, 2, 0, 1100]) := rfl
theorem s_62_56 {d : Nat} {t : yT} {st : List Value} {Q : xR → xS → Prop} {l0 l1 l2 : Option Value} {a0 : Nat} {a1 : Int32} (ho : yisO 4 a0) : G (d + 1) 62 56 [l0, l1, l2] (.int a1 :: .ref a0 :: st) (yemb t) Q ↔ xcat st ≤ 8 ∧ Cl d 42 [.ref a0, .int a1] (yemb t) (Gk (d + 1) 62 56 [l0, l1, l2] st Q) := gs_call f_62_56 ((xinv_call (i := 56) (n := 1100) (ls := [l0, l1, l2]) (kind := 0) (σ := yemb t) (by decide)).trans (xcall_vi [.int a1, .ref a0] rfl rfl (show (2 : Nat) ≤ 4 by decide) rfl ho))
theorem f_62_57 : ft 62 57 = some (93, .istore_n 2, []) := rfl
theorem s_62_57 {d : Nat} {σ : xS} {st : List Value} {Q : xR → xS → Prop} {l0 l1 l2 : Option Value} {x : Int32} : G d 62 57 [l0, l1, l2] (.int x :: st) σ Q ↔ G d 62 58 [l0, ykl l1, some (.int x)] st σ Q := by
  cases l1 with
  | none => exact gs_go f_62_57 rfl
  | some v => cases v <;> exact gs_go f_62_57 rfl
theorem f_62_58 : ft 62 58 = some (94, .aload_n 0, []) := rfl
theorem s_62_58 {d : Nat} {σ : xS} {st : List Value} {Q : xR → xS → Prop} {l1 l2 : Option Value} {x : Nat} : G d 62 58 [some (.ref x), l1, l2] st σ Q ↔ G d 62 59 [some (.ref x), l1, l2] (.ref x :: st) σ Q := gs_go f_62_58 rfl
theorem f_62_59 : ft 62 59 = some (95, .iload_n 2, []) := rfl
theorem s_62_59 {d : Nat} {σ : xS} {st : List Value} {Q : xR → xS → Prop} {l0 l1 : Option Value} {x : Int32} : G d 62 59 [l0, l1, some (.int x)] st σ Q ↔ G d 62 60 [l0, l1, some (.int x)] (.int x :: st) σ Q := gs_go f_62_59 rfl
theorem f_62_60 : ft 62 60 = some (96, .invokevirtual 110, [44, 2, 0, 1029]) := rfl
theorem s_62_60 {d : Nat} {t : yT} {st : List Value} {Q : xR → xS → Prop} {l0 l1 l2 : Option Value} {a0 : Nat} {a1 : Int32} (ho : yisO 4 a0) : G (d + 1) 62 60 [l0, l1, l2] (.int a1 :: .ref a0 :: st) (yemb t) Q ↔ xcat st ≤ 8 ∧ Cl d 44 [.ref a0, .int a1] (yemb t) (Gk (d + 1) 62 60 [l0, l1, l2] st Q) := gs_call f_62_60 ((xinv_call (i := 60) (n := 1029) (ls := [l0, l1, l2]) (kind := 0) (σ := yemb t) (by decide)).trans (xcall_vi [.int a1, .ref a0] rfl rfl (show (2 : Nat) ≤ 4 by decide) rfl ho))
theorem f_62_61 : ft 62 61 = some (99, .aload_n 0, []) := rfl
theorem s_62_61 {d : Nat} {σ : xS} {st : List Value} {Q : xR → xS → Prop} {l1 l2 : Option Value} {x : Nat} : G d 62 61 [some (.ref x), l1, l2] st σ Q ↔ G d 62 62 [some (.ref x), l1, l2] (.ref x :: st) σ Q := gs_go f_62_61 rfl
theorem f_62_62 : ft 62 62 = some (100, .getfield 36, [4, 8, 0, 158]) := rfl
theorem s_62_62 {d : Nat} {t : yT} {st : List Value} {Q : xR → xS → Prop} {l0 l1 l2 : Option Value} {a : Nat} (ho : yisO 4 a) : G d 62 62 [l0, l1, l2] (.ref a :: st) (yemb t) Q ↔ G d 62 63 [l0, l1, l2] (.ref (a + 9) :: st) (yemb t) Q := gs_getf (c := 4) (j := 8) (q := .c (a + 9)) f_62_62 ho rfl
theorem f_62_63 : ft 62 63 = some (103, .iload_n 2, []) := rfl
theorem s_62_63 {d : Nat} {σ : xS} {st : List Value} {Q : xR → xS → Prop} {l0 l1 : Option Value} {x : Int32} : G d 62 63 [l0, l1, some (.int x)] st σ Q ↔ G d 62 64 [l0, l1, some (.int x)] (.int x :: st) σ Q := gs_go f_62_63 rfl
theorem f_62_64 : ft 62 64 = some (104, .iaload, []) := rfl
theorem s_62_64 {d : Nat} {t : yT} {st : List Value} {Q : xR → xS → Prop} {l0 l1 l2 : Option Value} {a : Nat} {x : Int32} (ha : yA 0 a) : G d 62 64 [l0, l1, l2] (.int x :: .ref a :: st) (yemb t) Q ↔ yix x (yn a) ∧ G d 62 65 [l0, l1, l2] (.int (t.A a x.toNatClampNeg) :: st) (yemb t) Q := gs_iald f_62_64 ha
theorem f_62_65 : ft 62 65 = some (105, .if_icmp .le 8, [68]) := rfl
theorem s_62_65 {d : Nat} {σ : xS} {st : List Value} {Q : xR → xS → Prop} {l0 l1 l2 : Option Value} {x y : Int32} : G d 62 65 [l0, l1, l2] (.int y :: .int x :: st) σ Q ↔ if x ≤ y then G d 62 68 [l0, l1, l2] st σ Q else G d 62 66 [l0, l1, l2] st σ Q := gs_if f_62_65 rfl
theorem f_62_66 : ft 62 66 = some (108, .bipush 8, []) := rfl
theorem s_62_66 {d : Nat} {σ : xS} {st : List Value} {Q : xR → xS → Prop} {l0 l1 l2 : Option Value} : G d 62 66 [l0, l1, l2] st σ Q ↔ G d 62 67 [l0, l1, l2] (.int (8) :: st) σ Q := gs_go f_62_66 rfl
theorem f_62_67 : ft 62 67 = some (110, .goto 4, [69]) := rfl
theorem s_62_67 {d : Nat} {σ : xS} {st : List Value} {Q : xR → xS → Prop} {l0 l1 l2 : Option Value} : G d 62 67 [l0, l1, l2] st σ Q ↔ G d 62 69 [l0, l1, l2] st σ Q := gs_go f_62_67 rfl
theorem f_62_68 : ft 62 68 = some (113, .iconst 0, []) := rfl
theorem s_62_68 {d : Nat} {σ : xS} {st : List Value} {Q : xR → xS → Prop} {l0 l1 l2 : Option Value} : G d 62 68 [l0, l1, l2] st σ Q ↔ G d 62 69 [l0, l1, l2] (.int (0) :: st) σ Q := gs_go f_62_68 rfl
theorem f_62_69 : ft 62 69 = some (114, .ireturn, []) := rfl
theorem s_62_69 {d : Nat} {σ : xS} {ls : xL} {Q : xR → xS → Prop} {x : Int32} : G d 62 69 ls [.int x] σ Q ↔ Q (.inl (some (.int x))) σ := gs_reti f_62_69 rfl
theorem f_63_0 : ft 63 0 = some (0, .iconst 0, []) := rfl
theorem s_63_0 {d : Nat} {σ : xS} {st : List Value} {Q : xR → xS → Prop} {l0 l1 l2 : Option Value} : G d 63 0 [l0, l1, l2] st σ Q ↔ G d 63 1 [l0, l1, l2] (.int (0) :: st) σ Q := gs_go f_63_0 rfl
theorem f_63_1 : ft 63 1 = some (1, .istore_n 2, []) := rfl
theorem s_63_1 {d : Nat} {σ : xS} {st : List Value} {Q : xR → xS → Prop} {l0 l1 l2 : Option Value} {x : Int32} : G d 63 1 [l0, l1, l2] (.int x :: st) σ Q ↔ G d 63 2 [l0, ykl l1, some (.int x)] st σ Q := by
  cases l1 with
  | none => exact gs_go f_63_1 rfl
  | some v => cases v <;> exact gs_go f_63_1 rfl
theorem f_63_2 : ft 63 2 = some (2, .iload_n 2, []) := rfl
theorem s_63_2 {d : Nat} {σ : xS} {st : List Value} {Q : xR → xS → Prop} {l0 l1 : Option Value} {x : Int32} : G d 63 2 [l0, l1, some (.int x)] st σ Q ↔ G d 63 3 [l0, l1, some (.int x)] (.int x :: st) σ Q := gs_go f_63_2 rfl
theorem f_63_3 : ft 63 3 = some (3, .iload_n 1, []) := rfl
theorem s_63_3 {d : Nat} {σ : xS} {st : List Value} {Q : xR → xS → Prop} {l0 l2 : Option Value} {x : Int32} : G d 63 3 [l0, some (.int x), l2] st σ Q ↔ G d 63 4 [l0, some (.int x), l2] (.int x :: st) σ Q := gs_go f_63_3 rfl
theorem f_63_4 : ft 63 4 = some (4, .if_icmp .ge 29, [19]) := rfl
theorem s_63_4 {d : Nat} {σ : xS} {st : List Value} {Q : xR → xS → Prop} {l0 l1 l2 : Option Value} {x y : Int32} : G d 63 4 [l0, l1, l2] (.int y :: .int x :: st) σ Q ↔ if y ≤ x then G d 63 19 [l0, l1, l2] st σ Q else G d 63 5 [l0, l1, l2] st σ Q := gs_if f_63_4 rfl
theorem f_63_5 : ft 63 5 = some (7, .aload_n 0, []) := rfl
theorem s_63_5 {d : Nat} {σ : xS} {st : List Value} {Q : xR → xS → Prop} {l1 l2 : Option Value} {x : Nat} : G d 63 5 [some (.ref x), l1, l2] st σ Q ↔ G d 63 6 [some (.ref x), l1, l2] (.ref x :: st) σ Q := gs_go f_63_5 rfl
theorem f_63_6 : ft 63 6 = some (8, .getfield 18, [4, 2, 0, 146]) := rfl
theorem s_63_6 {d : Nat} {t : yT} {st : List Value} {Q : xR → xS → Prop} {l0 l1 l2 : Option Value} {a : Nat} (ho : yisO 4 a) : G d 63 6 [l0, l1, l2] (.ref a :: st) (yemb t) Q ↔ G d 63 7 [l0, l1, l2] (.ref (a + 3) :: st) (yemb t) Q := gs_getf (c := 4) (j := 2) (q := .c (a + 3)) f_63_6 ho rfl
theorem f_63_7 : ft 63 7 = some (11, .iload_n 2, []) := rfl
theorem s_63_7 {d : Nat} {σ : xS} {st : List Value} {Q : xR → xS → Prop} {l0 l1 : Option Value} {x : Int32} : G d 63 7 [l0, l1, some (.int x)] st σ Q ↔ G d 63 8 [l0, l1, some (.int x)] (.int x :: st) σ Q := gs_go f_63_7 rfl
theorem f_63_8 : ft 63 8 = some (12, .iaload, []) := rfl
theorem s_63_8 {d : Nat} {t : yT} {st : List Value} {Q : xR → xS → Prop} {l0 l1 l2 : Option Value} {a : Nat} {x : Int32} (ha : yA 0 a) : G d 63 8 [l0, l1, l2] (.int x :: .ref a :: st) (yemb t) Q ↔ yix x (yn a) ∧ G d 63 9 [l0, l1, l2] (.int (t.A a x.toNatClampNeg) :: st) (yemb t) Q := gs_iald f_63_8 ha
theorem f_63_9 : ft 63 9 = some (13, .iconst 1, []) := rfl
theorem s_63_9 {d : Nat} {σ : xS} {st : List Value} {Q : xR → xS → Prop} {l0 l1 l2 : Option Value} : G d 63 9 [l0, l1, l2] st σ Q ↔ G d 63 10 [l0, l1, l2] (.int (1) :: st) σ Q := gs_go f_63_9 rfl
theorem f_63_10 : ft 63 10 = some (14, .if_icmp .ne 13, [17]) := rfl
theorem s_63_10 {d : Nat} {σ : xS} {st : List Value} {Q : xR → xS → Prop} {l0 l1 l2 : Option Value} {x y : Int32} : G d 63 10 [l0, l1, l2] (.int y :: .int x :: st) σ Q ↔ if x ≠ y then G d 63 17 [l0, l1, l2] st σ Q else G d 63 11 [l0, l1, l2] st σ Q := gs_if f_63_10 rfl
theorem f_63_11 : ft 63 11 = some (17, .aload_n 0, []) := rfl
theorem s_63_11 {d : Nat} {σ : xS} {st : List Value} {Q : xR → xS → Prop} {l1 l2 : Option Value} {x : Nat} : G d 63 11 [some (.ref x), l1, l2] st σ Q ↔ G d 63 12 [some (.ref x), l1, l2] (.ref x :: st) σ Q := gs_go f_63_11 rfl
theorem f_63_12 : ft 63 12 = some (18, .iload_n 2, []) := rfl
theorem s_63_12 {d : Nat} {σ : xS} {st : List Value} {Q : xR → xS → Prop} {l0 l1 : Option Value} {x : Int32} : G d 63 12 [l0, l1, some (.int x)] st σ Q ↔ G d 63 13 [l0, l1, some (.int x)] (.int x :: st) σ Q := gs_go f_63_12 rfl
theorem f_63_13 : ft 63 13 = some (19, .invokevirtual 150, [34, 2, 0, 1092]) := rfl
theorem s_63_13 {d : Nat} {t : yT} {st : List Value} {Q : xR → xS → Prop} {l0 l1 l2 : Option Value} {a0 : Nat} {a1 : Int32} (ho : yisO 4 a0) : G (d + 1) 63 13 [l0, l1, l2] (.int a1 :: .ref a0 :: st) (yemb t) Q ↔ xcat st ≤ 8 ∧ Cl d 34 [.ref a0, .int a1] (yemb t) (Gk (d + 1) 63 13 [l0, l1, l2] st Q) := gs_call f_63_13 ((xinv_call (i := 13) (n := 1092) (ls := [l0, l1, l2]) (kind := 0) (σ := yemb t) (by decide)).trans (xcall_vi [.int a1, .ref a0] rfl rfl (show (2 : Nat) ≤ 2 by decide) rfl ho))
theorem f_63_14 : ft 63 14 = some (22, .ifCond .ne 5, [17]) := rfl
theorem s_63_14 {d : Nat} {σ : xS} {st : List Value} {Q : xR → xS → Prop} {l0 l1 l2 : Option Value} {x : Int32} : G d 63 14 [l0, l1, l2] (.int x :: st) σ Q ↔ if x ≠ 0 then G d 63 17 [l0, l1, l2] st σ Q else G d 63 15 [l0, l1, l2] st σ Q := gs_if f_63_14 rfl
theorem f_63_15 : ft 63 15 = some (25, .iconst 1, []) := rfl
theorem s_63_15 {d : Nat} {σ : xS} {st : List Value} {Q : xR → xS → Prop} {l0 l1 l2 : Option Value} : G d 63 15 [l0, l1, l2] st σ Q ↔ G d 63 16 [l0, l1, l2] (.int (1) :: st) σ Q := gs_go f_63_15 rfl
theorem f_63_16 : ft 63 16 = some (26, .ireturn, []) := rfl
theorem s_63_16 {d : Nat} {σ : xS} {ls : xL} {Q : xR → xS → Prop} {x : Int32} : G d 63 16 ls [.int x] σ Q ↔ ybo x ∧ Q (.inl (some (.int x))) σ := gs_retb f_63_16 rfl
theorem f_63_17 : ft 63 17 = some (27, .iinc 2 1, []) := rfl
theorem s_63_17 {d : Nat} {σ : xS} {st : List Value} {Q : xR → xS → Prop} {l0 l1 : Option Value} {x : Int32} : G d 63 17 [l0, l1, some (.int x)] st σ Q ↔ G d 63 18 [l0, ykl l1, some (.int (x + 1))] st σ Q := by
  cases l1 with
  | none => exact gs_go f_63_17 rfl
  | some v => cases v <;> exact gs_go f_63_17 rfl
theorem f_63_18 : ft 63 18 = some (30, .goto (-28), [2]) := rfl
theorem s_63_18 {d : Nat} {σ : xS} {st : List Value} {Q : xR → xS → Prop} {l0 l1 l2 : Option Value} : G d 63 18 [l0, l1, l2] st σ Q ↔ G d 63 2 [l0, l1, l2] st σ Q := gs_go f_63_18 rfl
theorem f_63_19 : ft 63 19 = some (33, .iconst 0, []) := rfl
theorem s_63_19 {d : Nat} {σ : xS} {st : List Value} {Q : xR → xS → Prop} {l0 l1 l2 : Option Value} : G d 63 19 [l0, l1, l2] st σ Q ↔ G d 63 20 [l0, l1, l2] (.int (0) :: st) σ Q := gs_go f_63_19 rfl
theorem f_63_20 : ft 63 20 = some (34, .ireturn, []) := rfl
theorem s_63_20 {d : Nat} {σ : xS} {ls : xL} {Q : xR → xS → Prop} {x : Int32} : G d 63 20 ls [.int x] σ Q ↔ ybo x ∧ Q (.inl (some (.int x))) σ := gs_retb f_63_20 rfl
theorem f_64_0 : ft 64 0 = some (0, .lload_n 0, []) := rfl
theorem s_64_0 {d : Nat} {σ : xS} {st : List Value} {Q : xR → xS → Prop} {l1 l2 : Option Value} {x : Int64} : G d 64 0 [some (.long x), l1, l2] st σ Q ↔ G d 64 1 [some (.long x), l1, l2] (.long x :: st) σ Q := gs_go f_64_0 rfl
theorem f_64_1 : ft 64 1 = some (1, .iload_n 2, []) := rfl
theorem s_64_1 {d : Nat} {σ : xS} {st : List Value} {Q : xR → xS → Prop} {l0 l1 : Option Value} {x : Int32} : G d 64 1 [l0, l1, some (.int x)] st σ Q ↔ G d 64 2 [l0, l1, some (.int x)] (.int x :: st) σ Q := gs_go f_64_1 rfl
theorem f_64_2 : ft 64 2 = some (2, .lushr, []) := rfl
theorem s_64_2 {d : Nat} {σ : xS} {st : List Value} {Q : xR → xS → Prop} {l0 l1 l2 : Option Value} {x : Int64} {y : Int32} : G d 64 2 [l0, l1, l2] (.int y :: .long x :: st) σ Q ↔ G d 64 3 [l0, l1, l2] (.long ((x.toUInt64 >>> (y.toInt64.toUInt64 &&& Int64.toUInt64 63)).toInt64) :: st) σ Q := gs_go f_64_2 rfl
theorem f_64_3 : ft 64 3 = some (3, .lconst 1, []) := rfl
theorem s_64_3 {d : Nat} {σ : xS} {st : List Value} {Q : xR → xS → Prop} {l0 l1 l2 : Option Value} : G d 64 3 [l0, l1, l2] st σ Q ↔ G d 64 4 [l0, l1, l2] (.long (1) :: st) σ Q := gs_go f_64_3 rfl
theorem f_64_4 : ft 64 4 = some (4, .land, []) := rfl
theorem s_64_4 {d : Nat} {σ : xS} {st : List Value} {Q : xR → xS → Prop} {l0 l1 l2 : Option Value} {x y : Int64} : G d 64 4 [l0, l1, l2] (.long y :: .long x :: st) σ Q ↔ G d 64 5 [l0, l1, l2] (.long (x &&& y) :: st) σ Q := gs_go f_64_4 rfl
theorem f_64_5 : ft 64 5 = some (5, .lconst 0, []) := rfl
theorem s_64_5 {d : Nat} {σ : xS} {st : List Value} {Q : xR → xS → Prop} {l0 l1 l2 : Option Value} : G d 64 5 [l0, l1, l2] st σ Q ↔ G d 64 6 [l0, l1, l2] (.long (0) :: st) σ Q := gs_go f_64_5 rfl
theorem f_64_6 : ft 64 6 = some (6, .lcmp, []) := rfl
theorem s_64_6 {d : Nat} {σ : xS} {st : List Value} {Q : xR → xS → Prop} {l0 l1 l2 : Option Value} {x y : Int64} : G d 64 6 [l0, l1, l2] (.long y :: .long x :: st) σ Q ↔ G d 64 7 [l0, l1, l2] (.int (lg_cmp x y) :: st) σ Q := gs_go f_64_6 rfl
theorem f_64_7 : ft 64 7 = some (7, .ifCond .eq 7, [10]) := rfl
theorem s_64_7 {d : Nat} {σ : xS} {st : List Value} {Q : xR → xS → Prop} {l0 l1 l2 : Option Value} {x : Int32} : G d 64 7 [l0, l1, l2] (.int x :: st) σ Q ↔ if x = 0 then G d 64 10 [l0, l1, l2] st σ Q else G d 64 8 [l0, l1, l2] st σ Q := gs_if f_64_7 rfl
theorem f_64_8 : ft 64 8 = some (10, .iconst 1, []) := rfl
theorem s_64_8 {d : Nat} {σ : xS} {st : List Value} {Q : xR → xS → Prop} {l0 l1 l2 : Option Value} : G d 64 8 [l0, l1, l2] st σ Q ↔ G d 64 9 [l0, l1, l2] (.int (1) :: st) σ Q := gs_go f_64_8 rfl
theorem f_64_9 : ft 64 9 = some (11, .goto 4, [11]) := rfl
theorem s_64_9 {d : Nat} {σ : xS} {st : List Value} {Q : xR → xS → Prop} {l0 l1 l2 : Option Value} : G d 64 9 [l0, l1, l2] st σ Q ↔ G d 64 11 [l0, l1, l2] st σ Q := gs_go f_64_9 rfl
theorem f_64_10 : ft 64 10 = some (14, .iconst 0, []) := rfl
theorem s_64_10 {d : Nat} {σ : xS} {st : List Value} {Q : xR → xS → Prop} {l0 l1 l2 : Option Value} : G d 64 10 [l0, l1, l2] st σ Q ↔ G d 64 11 [l0, l1, l2] (.int (0) :: st) σ Q := gs_go f_64_10 rfl
theorem f_64_11 : ft 64 11 = some (15, .ireturn, []) := rfl
theorem s_64_11 {d : Nat} {σ : xS} {ls : xL} {Q : xR → xS → Prop} {x : Int32} : G d 64 11 ls [.int x] σ Q ↔ ybo x ∧ Q (.inl (some (.int x))) σ := gs_retb f_64_11 rfl
theorem f_65_0 : ft 65 0 = some (0, .aload_n 0, []) := rfl
theorem s_65_0 {d : Nat} {σ : xS} {st : List Value} {Q : xR → xS → Prop} {l1 : Option Value} {x : Nat} : G d 65 0 [some (.ref x), l1] st σ Q ↔ G d 65 1 [some (.ref x), l1] (.ref x :: st) σ Q := gs_go f_65_0 rfl
theorem f_65_1 : ft 65 1 = some (1, .invokespecial 3, [0, 1, 20, 230]) := rfl
theorem f_65_2 : ft 65 2 = some (4, .aload_n 0, []) := rfl
theorem s_65_2 {d : Nat} {σ : xS} {st : List Value} {Q : xR → xS → Prop} {l1 : Option Value} {x : Nat} : G d 65 2 [some (.ref x), l1] st σ Q ↔ G d 65 3 [some (.ref x), l1] (.ref x :: st) σ Q := gs_go f_65_2 rfl
theorem f_65_3 : ft 65 3 = some (5, .sipush 600, []) := rfl
theorem s_65_3 {d : Nat} {σ : xS} {st : List Value} {Q : xR → xS → Prop} {l0 l1 : Option Value} : G d 65 3 [l0, l1] st σ Q ↔ G d 65 4 [l0, l1] (.int (600) :: st) σ Q := gs_go f_65_3 rfl
theorem f_65_4 : ft 65 4 = some (8, .newarray .int, [0]) := rfl
theorem f_65_5 : ft 65 5 = some (10, .putfield 9, [5, 1, 0, 232]) := rfl
theorem f_65_6 : ft 65 6 = some (13, .aload_n 0, []) := rfl
theorem s_65_6 {d : Nat} {σ : xS} {st : List Value} {Q : xR → xS → Prop} {l1 : Option Value} {x : Nat} : G d 65 6 [some (.ref x), l1] st σ Q ↔ G d 65 7 [some (.ref x), l1] (.ref x :: st) σ Q := gs_go f_65_6 rfl
theorem f_65_7 : ft 65 7 = some (14, .iconst 0, []) := rfl
theorem s_65_7 {d : Nat} {σ : xS} {st : List Value} {Q : xR → xS → Prop} {l0 l1 : Option Value} : G d 65 7 [l0, l1] st σ Q ↔ G d 65 8 [l0, l1] (.int (0) :: st) σ Q := gs_go f_65_7 rfl
theorem f_65_8 : ft 65 8 = some (15, .putfield 15, [5, 2, 0, 233]) := rfl
theorem s_65_8 {d : Nat} {t : yT} {st : List Value} {Q : xR → xS → Prop} {l0 l1 : Option Value} {a : Nat} {x : Int32} (ho : yisO 5 a) : G d 65 8 [l0, l1] (.int x :: .ref a :: st) (yemb t) Q ↔ G d 65 9 [l0, l1] st (yemb (t.s1 a 2 x)) Q := gs_putI (c := 5) (j := 2) f_65_8 (fun _ => rfl) rfl rfl ho
theorem f_65_9 : ft 65 9 = some (18, .aload_n 0, []) := rfl
theorem s_65_9 {d : Nat} {σ : xS} {st : List Value} {Q : xR → xS → Prop} {l1 : Option Value} {x : Nat} : G d 65 9 [some (.ref x), l1] st σ Q ↔ G d 65 10 [some (.ref x), l1] (.ref x :: st) σ Q := gs_go f_65_9 rfl
theorem f_65_10 : ft 65 10 = some (19, .aload_n 1, []) := rfl
theorem s_65_10 {d : Nat} {σ : xS} {st : List Value} {Q : xR → xS → Prop} {l0 : Option Value} {x : Nat} : G d 65 10 [l0, some (.ref x)] st σ Q ↔ G d 65 11 [l0, some (.ref x)] (.ref x :: st) σ Q := gs_go f_65_10 rfl
theorem f_65_11 : ft 65 11 = some (20, .putfield 19, [5, 0, 0, 231]) := rfl
theorem f_65_12 : ft 65 12 = some (23, .return_, []) := rfl
theorem s_65_12 {d : Nat} {σ : xS} {ls : xL} {Q : xR → xS → Prop} : G d 65 12 ls [] σ Q ↔ Q (.inl none) σ := gs_ret f_65_12 rfl
theorem f_66_0 : ft 66 0 = some (0, .aload_n 0, []) := rfl
theorem s_66_0 {d : Nat} {σ : xS} {st : List Value} {Q : xR → xS → Prop} {x : Nat} : G d 66 0 [some (.ref x)] st σ Q ↔ G d 66 1 [some (.ref x)] (.ref x :: st) σ Q := gs_go f_66_0 rfl
theorem f_66_1 : ft 66 1 = some (1, .iconst 0, []) := rfl
theorem s_66_1 {d : Nat} {σ : xS} {st : List Value} {Q : xR → xS → Prop} {l0 : Option Value} : G d 66 1 [l0] st σ Q ↔ G d 66 2 [l0] (.int (0) :: st) σ Q := gs_go f_66_1 rfl
theorem f_66_2 : ft 66 2 = some (2, .putfield 15, [5, 2, 0, 233]) := rfl
theorem s_66_2 {d : Nat} {t : yT} {st : List Value} {Q : xR → xS → Prop} {l0 : Option Value} {a : Nat} {x : Int32} (ho : yisO 5 a) : G d 66 2 [l0] (.int x :: .ref a :: st) (yemb t) Q ↔ G d 66 3 [l0] st (yemb (t.s1 a 2 x)) Q := gs_putI (c := 5) (j := 2) f_66_2 (fun _ => rfl) rfl rfl ho
theorem f_66_3 : ft 66 3 = some (5, .return_, []) := rfl
theorem s_66_3 {d : Nat} {σ : xS} {ls : xL} {Q : xR → xS → Prop} : G d 66 3 ls [] σ Q ↔ Q (.inl none) σ := gs_ret f_66_3 rfl
theorem f_67_0 : ft 67 0 = some (0, .aload_n 0, []) := rfl
theorem s_67_0 {d : Nat} {σ : xS} {st : List Value} {Q : xR → xS → Prop} {x : Nat} : G d 67 0 [some (.ref x)] st σ Q ↔ G d 67 1 [some (.ref x)] (.ref x :: st) σ Q := gs_go f_67_0 rfl
theorem f_67_1 : ft 67 1 = some (1, .getfield 9, [5, 1, 0, 232]) := rfl
theorem s_67_1 {d : Nat} {t : yT} {st : List Value} {Q : xR → xS → Prop} {l0 : Option Value} {a : Nat} (ho : yisO 5 a) : G d 67 1 [l0] (.ref a :: st) (yemb t) Q ↔ G d 67 2 [l0] (.ref 33 :: st) (yemb t) Q := gs_getf (c := 5) (j := 1) (q := .c 33) f_67_1 ho rfl
theorem f_67_2 : ft 67 2 = some (4, .aload_n 0, []) := rfl
theorem s_67_2 {d : Nat} {σ : xS} {st : List Value} {Q : xR → xS → Prop} {x : Nat} : G d 67 2 [some (.ref x)] st σ Q ↔ G d 67 3 [some (.ref x)] (.ref x :: st) σ Q := gs_go f_67_2 rfl
theorem f_67_3 : ft 67 3 = some (5, .getfield 15, [5, 2, 0, 233]) := rfl
theorem s_67_3 {d : Nat} {t : yT} {st : List Value} {Q : xR → xS → Prop} {l0 : Option Value} {a : Nat} (ho : yisO 5 a) : G d 67 3 [l0] (.ref a :: st) (yemb t) Q ↔ G d 67 4 [l0] (.int (t.A a 2) :: st) (yemb t) Q := gs_getf (c := 5) (j := 2) (q := .i) f_67_3 ho rfl
theorem f_67_4 : ft 67 4 = some (8, .invokestatic 23, [224, 2, 1, 867]) := rfl
theorem s_67_4 {d : Nat} {σ : xS} {st : List Value} {Q : xR → xS → Prop} {l0 : Option Value} {a0 : Nat} {a1 : Int32} : G (d + 1) 67 4 [l0] (.int a1 :: .ref a0 :: st) σ Q ↔ xcat st ≤ 8 ∧ Cl d 224 [.ref a0, .int a1] σ (Gk (d + 1) 67 4 [l0] st Q) := gs_call f_67_4 ((xinv_call (i := 4) (n := 867) (ls := [l0]) (kind := 1) (σ := σ) (by decide)).trans (xcall_st [.int a1, .ref a0] rfl (by decide) (show (2 : Nat) ≤ 3 by decide)))
theorem f_67_5 : ft 67 5 = some (11, .areturn, []) := rfl
theorem s_67_5 {d : Nat} {σ : xS} {ls : xL} {Q : xR → xS → Prop} {x : Nat} : G d 67 5 ls [.ref x] σ Q ↔ Q (.inl (some (.ref x))) σ := gs_ret f_67_5 rfl
theorem f_68_0 : ft 68 0 = some (0, .iconst 0, []) := rfl
theorem s_68_0 {d : Nat} {σ : xS} {st : List Value} {Q : xR → xS → Prop} {l0 l1 l2 l3 l4 l5 : Option Value} : G d 68 0 [l0, l1, l2, l3, l4, l5] st σ Q ↔ G d 68 1 [l0, l1, l2, l3, l4, l5] (.int (0) :: st) σ Q := gs_go f_68_0 rfl
theorem f_68_1 : ft 68 1 = some (1, .istore_n 2, []) := rfl
theorem s_68_1 {d : Nat} {σ : xS} {st : List Value} {Q : xR → xS → Prop} {l0 l1 l2 l3 l4 l5 : Option Value} {x : Int32} : G d 68 1 [l0, l1, l2, l3, l4, l5] (.int x :: st) σ Q ↔ G d 68 2 [l0, ykl l1, some (.int x), l3, l4, l5] st σ Q := by
  cases l1 with
  | none => exact gs_go f_68_1 rfl
  | some v => cases v <;> exact gs_go f_68_1 rfl
theorem f_68_2 : ft 68 2 = some (2, .aload_n 0, []) := rfl
theorem s_68_2 {d : Nat} {σ : xS} {st : List Value} {Q : xR → xS → Prop} {l1 l2 l3 l4 l5 : Option Value} {x : Nat} : G d 68 2 [some (.ref x), l1, l2, l3, l4, l5] st σ Q ↔ G d 68 3 [some (.ref x), l1, l2, l3, l4, l5] (.ref x :: st) σ Q := gs_go f_68_2 rfl
theorem f_68_3 : ft 68 3 = some (3, .iload_n 1, []) := rfl
theorem s_68_3 {d : Nat} {σ : xS} {st : List Value} {Q : xR → xS → Prop} {l0 l2 l3 l4 l5 : Option Value} {x : Int32} : G d 68 3 [l0, some (.int x), l2, l3, l4, l5] st σ Q ↔ G d 68 4 [l0, some (.int x), l2, l3, l4, l5] (.int x :: st) σ Q := gs_go f_68_3 rfl
theorem f_68_4 : ft 68 4 = some (4, .invokevirtual 29, [70, 2, 0, 838]) := rfl
theorem s_68_4 {d : Nat} {t : yT} {st : List Value} {Q : xR → xS → Prop} {l0 l1 l2 l3 l4 l5 : Option Value} {a0 : Nat} {a1 : Int32} (ho : yisO 5 a0) : G (d + 1) 68 4 [l0, l1, l2, l3, l4, l5] (.int a1 :: .ref a0 :: st) (yemb t) Q ↔ xcat st ≤ 8 ∧ Cl d 70 [.ref a0, .int a1] (yemb t) (Gk (d + 1) 68 4 [l0, l1, l2, l3, l4, l5] st Q) := gs_call f_68_4 ((xinv_call (i := 4) (n := 838) (ls := [l0, l1, l2, l3, l4, l5]) (kind := 0) (σ := yemb t) (by decide)).trans (xcall_vi [.int a1, .ref a0] rfl rfl (show (2 : Nat) ≤ 3 by decide) rfl ho))
theorem f_68_5 : ft 68 5 = some (7, .ifCond .ne 5, [8]) := rfl
theorem s_68_5 {d : Nat} {σ : xS} {st : List Value} {Q : xR → xS → Prop} {l0 l1 l2 l3 l4 l5 : Option Value} {x : Int32} : G d 68 5 [l0, l1, l2, l3, l4, l5] (.int x :: st) σ Q ↔ if x ≠ 0 then G d 68 8 [l0, l1, l2, l3, l4, l5] st σ Q else G d 68 6 [l0, l1, l2, l3, l4, l5] st σ Q := gs_if f_68_5 rfl
theorem f_68_6 : ft 68 6 = some (10, .iconst 0, []) := rfl
theorem s_68_6 {d : Nat} {σ : xS} {st : List Value} {Q : xR → xS → Prop} {l0 l1 l2 l3 l4 l5 : Option Value} : G d 68 6 [l0, l1, l2, l3, l4, l5] st σ Q ↔ G d 68 7 [l0, l1, l2, l3, l4, l5] (.int (0) :: st) σ Q := gs_go f_68_6 rfl
theorem f_68_7 : ft 68 7 = some (11, .ireturn, []) := rfl
theorem s_68_7 {d : Nat} {σ : xS} {ls : xL} {Q : xR → xS → Prop} {x : Int32} : G d 68 7 ls [.int x] σ Q ↔ ybo x ∧ Q (.inl (some (.int x))) σ := gs_retb f_68_7 rfl
theorem f_68_8 : ft 68 8 = some (12, .aload_n 0, []) := rfl
theorem s_68_8 {d : Nat} {σ : xS} {st : List Value} {Q : xR → xS → Prop} {l1 l2 l3 l4 l5 : Option Value} {x : Nat} : G d 68 8 [some (.ref x), l1, l2, l3, l4, l5] st σ Q ↔ G d 68 9 [some (.ref x), l1, l2, l3, l4, l5] (.ref x :: st) σ Q := gs_go f_68_8 rfl
theorem f_68_9 : ft 68 9 = some (13, .invokevirtual 33, [69, 1, 0, 855]) := rfl
theorem s_68_9 {d : Nat} {t : yT} {st : List Value} {Q : xR → xS → Prop} {l0 l1 l2 l3 l4 l5 : Option Value} {a0 : Nat} (ho : yisO 5 a0) : G (d + 1) 68 9 [l0, l1, l2, l3, l4, l5] (.ref a0 :: st) (yemb t) Q ↔ xcat st ≤ 8 ∧ Cl d 69 [.ref a0] (yemb t) (Gk (d + 1) 68 9 [l0, l1, l2, l3, l4, l5] st Q) := gs_call f_68_9 ((xinv_call (i := 9) (n := 855) (ls := [l0, l1, l2, l3, l4, l5]) (kind := 0) (σ := yemb t) (by decide)).trans (xcall_vi [.ref a0] rfl rfl (show (1 : Nat) ≤ 1 by decide) rfl ho))
theorem f_68_10 : ft 68 10 = some (16, .istore_n 3, []) := rfl
theorem s_68_10 {d : Nat} {σ : xS} {st : List Value} {Q : xR → xS → Prop} {l0 l1 l2 l3 l4 l5 : Option Value} {x : Int32} : G d 68 10 [l0, l1, l2, l3, l4, l5] (.int x :: st) σ Q ↔ G d 68 11 [l0, l1, ykl l2, some (.int x), l4, l5] st σ Q := by
  cases l2 with
  | none => exact gs_go f_68_10 rfl
  | some v => cases v <;> exact gs_go f_68_10 rfl
theorem f_68_11 : ft 68 11 = some (17, .iconst 0, []) := rfl
theorem s_68_11 {d : Nat} {σ : xS} {st : List Value} {Q : xR → xS → Prop} {l0 l1 l2 l3 l4 l5 : Option Value} : G d 68 11 [l0, l1, l2, l3, l4, l5] st σ Q ↔ G d 68 12 [l0, l1, l2, l3, l4, l5] (.int (0) :: st) σ Q := gs_go f_68_11 rfl
theorem f_68_12 : ft 68 12 = some (18, .istore 4, []) := rfl
theorem s_68_12 {d : Nat} {σ : xS} {st : List Value} {Q : xR → xS → Prop} {l0 l1 l2 l3 l4 l5 : Option Value} {x : Int32} : G d 68 12 [l0, l1, l2, l3, l4, l5] (.int x :: st) σ Q ↔ G d 68 13 [l0, l1, l2, ykl l3, some (.int x), l5] st σ Q := by
  cases l3 with
  | none => exact gs_go f_68_12 rfl
  | some v => cases v <;> exact gs_go f_68_12 rfl
theorem f_68_13 : ft 68 13 = some (20, .iload 4, []) := rfl
theorem s_68_13 {d : Nat} {σ : xS} {st : List Value} {Q : xR → xS → Prop} {l0 l1 l2 l3 l5 : Option Value} {x : Int32} : G d 68 13 [l0, l1, l2, l3, some (.int x), l5] st σ Q ↔ G d 68 14 [l0, l1, l2, l3, some (.int x), l5] (.int x :: st) σ Q := gs_go f_68_13 rfl
theorem f_68_14 : ft 68 14 = some (22, .sipush 600, []) := rfl
theorem s_68_14 {d : Nat} {σ : xS} {st : List Value} {Q : xR → xS → Prop} {l0 l1 l2 l3 l4 l5 : Option Value} : G d 68 14 [l0, l1, l2, l3, l4, l5] st σ Q ↔ G d 68 15 [l0, l1, l2, l3, l4, l5] (.int (600) :: st) σ Q := gs_go f_68_14 rfl
theorem f_68_15 : ft 68 15 = some (25, .if_icmp .ge 76, [54]) := rfl
theorem s_68_15 {d : Nat} {σ : xS} {st : List Value} {Q : xR → xS → Prop} {l0 l1 l2 l3 l4 l5 : Option Value} {x y : Int32} : G d 68 15 [l0, l1, l2, l3, l4, l5] (.int y :: .int x :: st) σ Q ↔ if y ≤ x then G d 68 54 [l0, l1, l2, l3, l4, l5] st σ Q else G d 68 16 [l0, l1, l2, l3, l4, l5] st σ Q := gs_if f_68_15 rfl
theorem f_68_16 : ft 68 16 = some (28, .iload_n 3, []) := rfl
theorem s_68_16 {d : Nat} {σ : xS} {st : List Value} {Q : xR → xS → Prop} {l0 l1 l2 l4 l5 : Option Value} {x : Int32} : G d 68 16 [l0, l1, l2, some (.int x), l4, l5] st σ Q ↔ G d 68 17 [l0, l1, l2, some (.int x), l4, l5] (.int x :: st) σ Q := gs_go f_68_16 rfl
theorem f_68_17 : ft 68 17 = some (29, .ifCond .eq 72, [54]) := rfl
theorem s_68_17 {d : Nat} {σ : xS} {st : List Value} {Q : xR → xS → Prop} {l0 l1 l2 l3 l4 l5 : Option Value} {x : Int32} : G d 68 17 [l0, l1, l2, l3, l4, l5] (.int x :: st) σ Q ↔ if x = 0 then G d 68 54 [l0, l1, l2, l3, l4, l5] st σ Q else G d 68 18 [l0, l1, l2, l3, l4, l5] st σ Q := gs_if f_68_17 rfl
theorem f_68_18 : ft 68 18 = some (32, .iload_n 3, []) := rfl
theorem s_68_18 {d : Nat} {σ : xS} {st : List Value} {Q : xR → xS → Prop} {l0 l1 l2 l4 l5 : Option Value} {x : Int32} : G d 68 18 [l0, l1, l2, some (.int x), l4, l5] st σ Q ↔ G d 68 19 [l0, l1, l2, some (.int x), l4, l5] (.int x :: st) σ Q := gs_go f_68_18 rfl
theorem f_68_19 : ft 68 19 = some (33, .bipush (-5), []) := rfl
theorem s_68_19 {d : Nat} {σ : xS} {st : List Value} {Q : xR → xS → Prop} {l0 l1 l2 l3 l4 l5 : Option Value} : G d 68 19 [l0, l1, l2, l3, l4, l5] st σ Q ↔ G d 68 20 [l0, l1, l2, l3, l4, l5] (.int (-5) :: st) σ Q := gs_go f_68_19 rfl
theorem f_68_20 : ft 68 20 = some (35, .if_icmp .eq 9, [24]) := rfl
theorem s_68_20 {d : Nat} {σ : xS} {st : List Value} {Q : xR → xS → Prop} {l0 l1 l2 l3 l4 l5 : Option Value} {x y : Int32} : G d 68 20 [l0, l1, l2, l3, l4, l5] (.int y :: .int x :: st) σ Q ↔ if x = y then G d 68 24 [l0, l1, l2, l3, l4, l5] st σ Q else G d 68 21 [l0, l1, l2, l3, l4, l5] st σ Q := gs_if f_68_20 rfl
theorem f_68_21 : ft 68 21 = some (38, .iload_n 3, []) := rfl
theorem s_68_21 {d : Nat} {σ : xS} {st : List Value} {Q : xR → xS → Prop} {l0 l1 l2 l4 l5 : Option Value} {x : Int32} : G d 68 21 [l0, l1, l2, some (.int x), l4, l5] st σ Q ↔ G d 68 22 [l0, l1, l2, some (.int x), l4, l5] (.int x :: st) σ Q := gs_go f_68_21 rfl
theorem f_68_22 : ft 68 22 = some (39, .bipush (-6), []) := rfl
theorem s_68_22 {d : Nat} {σ : xS} {st : List Value} {Q : xR → xS → Prop} {l0 l1 l2 l3 l4 l5 : Option Value} : G d 68 22 [l0, l1, l2, l3, l4, l5] st σ Q ↔ G d 68 23 [l0, l1, l2, l3, l4, l5] (.int (-6) :: st) σ Q := gs_go f_68_22 rfl
theorem f_68_23 : ft 68 23 = some (41, .if_icmp .ne 7, [26]) := rfl
theorem s_68_23 {d : Nat} {σ : xS} {st : List Value} {Q : xR → xS → Prop} {l0 l1 l2 l3 l4 l5 : Option Value} {x y : Int32} : G d 68 23 [l0, l1, l2, l3, l4, l5] (.int y :: .int x :: st) σ Q ↔ if x ≠ y then G d 68 26 [l0, l1, l2, l3, l4, l5] st σ Q else G d 68 24 [l0, l1, l2, l3, l4, l5] st σ Q := gs_if f_68_23 rfl
theorem f_68_24 : ft 68 24 = some (44, .iconst 1, []) := rfl
theorem s_68_24 {d : Nat} {σ : xS} {st : List Value} {Q : xR → xS → Prop} {l0 l1 l2 l3 l4 l5 : Option Value} : G d 68 24 [l0, l1, l2, l3, l4, l5] st σ Q ↔ G d 68 25 [l0, l1, l2, l3, l4, l5] (.int (1) :: st) σ Q := gs_go f_68_24 rfl
theorem f_68_25 : ft 68 25 = some (45, .goto 4, [27]) := rfl
theorem s_68_25 {d : Nat} {σ : xS} {st : List Value} {Q : xR → xS → Prop} {l0 l1 l2 l3 l4 l5 : Option Value} : G d 68 25 [l0, l1, l2, l3, l4, l5] st σ Q ↔ G d 68 27 [l0, l1, l2, l3, l4, l5] st σ Q := gs_go f_68_25 rfl
theorem f_68_26 : ft 68 26 = some (48, .iconst 0, []) := rfl
theorem s_68_26 {d : Nat} {σ : xS} {st : List Value} {Q : xR → xS → Prop} {l0 l1 l2 l3 l4 l5 : Option Value} : G d 68 26 [l0, l1, l2, l3, l4, l5] st σ Q ↔ G d 68 27 [l0, l1, l2, l3, l4, l5] (.int (0) :: st) σ Q := gs_go f_68_26 rfl
theorem f_68_27 : ft 68 27 = some (49, .istore 5, []) := rfl
theorem s_68_27 {d : Nat} {σ : xS} {st : List Value} {Q : xR → xS → Prop} {l0 l1 l2 l3 l4 l5 : Option Value} {x : Int32} : G d 68 27 [l0, l1, l2, l3, l4, l5] (.int x :: st) σ Q ↔ G d 68 28 [l0, l1, l2, l3, ykl l4, some (.int x)] st σ Q := by
  cases l4 with
  | none => exact gs_go f_68_27 rfl
  | some v => cases v <;> exact gs_go f_68_27 rfl
theorem f_68_28 : ft 68 28 = some (51, .iload 5, []) := rfl
theorem s_68_28 {d : Nat} {σ : xS} {st : List Value} {Q : xR → xS → Prop} {l0 l1 l2 l3 l4 : Option Value} {x : Int32} : G d 68 28 [l0, l1, l2, l3, l4, some (.int x)] st σ Q ↔ G d 68 29 [l0, l1, l2, l3, l4, some (.int x)] (.int x :: st) σ Q := gs_go f_68_28 rfl
theorem f_68_29 : ft 68 29 = some (53, .ifCond .ne 10, [35]) := rfl
theorem s_68_29 {d : Nat} {σ : xS} {st : List Value} {Q : xR → xS → Prop} {l0 l1 l2 l3 l4 l5 : Option Value} {x : Int32} : G d 68 29 [l0, l1, l2, l3, l4, l5] (.int x :: st) σ Q ↔ if x ≠ 0 then G d 68 35 [l0, l1, l2, l3, l4, l5] st σ Q else G d 68 30 [l0, l1, l2, l3, l4, l5] st σ Q := gs_if f_68_29 rfl
theorem f_68_30 : ft 68 30 = some (56, .aload_n 0, []) := rfl
theorem s_68_30 {d : Nat} {σ : xS} {st : List Value} {Q : xR → xS → Prop} {l1 l2 l3 l4 l5 : Option Value} {x : Nat} : G d 68 30 [some (.ref x), l1, l2, l3, l4, l5] st σ Q ↔ G d 68 31 [some (.ref x), l1, l2, l3, l4, l5] (.ref x :: st) σ Q := gs_go f_68_30 rfl
theorem f_68_31 : ft 68 31 = some (57, .iload_n 2, []) := rfl
theorem s_68_31 {d : Nat} {σ : xS} {st : List Value} {Q : xR → xS → Prop} {l0 l1 l3 l4 l5 : Option Value} {x : Int32} : G d 68 31 [l0, l1, some (.int x), l3, l4, l5] st σ Q ↔ G d 68 32 [l0, l1, some (.int x), l3, l4, l5] (.int x :: st) σ Q := gs_go f_68_31 rfl
theorem f_68_32 : ft 68 32 = some (58, .invokevirtual 37, [71, 2, 0, 859]) := rfl
theorem s_68_32 {d : Nat} {t : yT} {st : List Value} {Q : xR → xS → Prop} {l0 l1 l2 l3 l4 l5 : Option Value} {a0 : Nat} {a1 : Int32} (ho : yisO 5 a0) : G (d + 1) 68 32 [l0, l1, l2, l3, l4, l5] (.int a1 :: .ref a0 :: st) (yemb t) Q ↔ xcat st ≤ 8 ∧ Cl d 71 [.ref a0, .int a1] (yemb t) (Gk (d + 1) 68 32 [l0, l1, l2, l3, l4, l5] st Q) := gs_call f_68_32 ((xinv_call (i := 32) (n := 859) (ls := [l0, l1, l2, l3, l4, l5]) (kind := 0) (σ := yemb t) (by decide)).trans (xcall_vi [.int a1, .ref a0] rfl rfl (show (2 : Nat) ≤ 2 by decide) rfl ho))
theorem f_68_33 : ft 68 33 = some (61, .iload_n 3, []) := rfl
theorem s_68_33 {d : Nat} {σ : xS} {st : List Value} {Q : xR → xS → Prop} {l0 l1 l2 l4 l5 : Option Value} {x : Int32} : G d 68 33 [l0, l1, l2, some (.int x), l4, l5] st σ Q ↔ G d 68 34 [l0, l1, l2, some (.int x), l4, l5] (.int x :: st) σ Q := gs_go f_68_33 rfl
theorem f_68_34 : ft 68 34 = some (62, .istore_n 2, []) := rfl
theorem s_68_34 {d : Nat} {σ : xS} {st : List Value} {Q : xR → xS → Prop} {l0 l1 l2 l3 l4 l5 : Option Value} {x : Int32} : G d 68 34 [l0, l1, l2, l3, l4, l5] (.int x :: st) σ Q ↔ G d 68 35 [l0, ykl l1, some (.int x), l3, l4, l5] st σ Q := by
  cases l1 with
  | none => exact gs_go f_68_34 rfl
  | some v => cases v <;> exact gs_go f_68_34 rfl
theorem f_68_35 : ft 68 35 = some (63, .aload_n 0, []) := rfl
theorem s_68_35 {d : Nat} {σ : xS} {st : List Value} {Q : xR → xS → Prop} {l1 l2 l3 l4 l5 : Option Value} {x : Nat} : G d 68 35 [some (.ref x), l1, l2, l3, l4, l5] st σ Q ↔ G d 68 36 [some (.ref x), l1, l2, l3, l4, l5] (.ref x :: st) σ Q := gs_go f_68_35 rfl
theorem f_68_36 : ft 68 36 = some (64, .getfield 19, [5, 0, 0, 231]) := rfl
theorem s_68_36 {d : Nat} {t : yT} {st : List Value} {Q : xR → xS → Prop} {l0 l1 l2 l3 l4 l5 : Option Value} {a : Nat} (ho : yisO 5 a) : G d 68 36 [l0, l1, l2, l3, l4, l5] (.ref a :: st) (yemb t) Q ↔ G d 68 37 [l0, l1, l2, l3, l4, l5] (.ref 1 :: st) (yemb t) Q := gs_getf (c := 5) (j := 0) (q := .c 1) f_68_36 ho rfl
theorem f_68_37 : ft 68 37 = some (67, .invokevirtual 41, [80, 1, 0, 844]) := rfl
theorem s_68_37 {d : Nat} {t : yT} {st : List Value} {Q : xR → xS → Prop} {l0 l1 l2 l3 l4 l5 : Option Value} {a0 : Nat} (ho : yisO 6 a0) : G (d + 1) 68 37 [l0, l1, l2, l3, l4, l5] (.ref a0 :: st) (yemb t) Q ↔ xcat st ≤ 8 ∧ Cl d 80 [.ref a0] (yemb t) (Gk (d + 1) 68 37 [l0, l1, l2, l3, l4, l5] st Q) := gs_call f_68_37 ((xinv_call (i := 37) (n := 844) (ls := [l0, l1, l2, l3, l4, l5]) (kind := 0) (σ := yemb t) (by decide)).trans (xcall_vi [.ref a0] rfl rfl (show (1 : Nat) ≤ 1 by decide) rfl ho))
theorem f_68_38 : ft 68 38 = some (70, .aload_n 0, []) := rfl
theorem s_68_38 {d : Nat} {σ : xS} {st : List Value} {Q : xR → xS → Prop} {l1 l2 l3 l4 l5 : Option Value} {x : Nat} : G d 68 38 [some (.ref x), l1, l2, l3, l4, l5] st σ Q ↔ G d 68 39 [some (.ref x), l1, l2, l3, l4, l5] (.ref x :: st) σ Q := gs_go f_68_38 rfl
theorem f_68_39 : ft 68 39 = some (71, .iload_n 1, []) := rfl
theorem s_68_39 {d : Nat} {σ : xS} {st : List Value} {Q : xR → xS → Prop} {l0 l2 l3 l4 l5 : Option Value} {x : Int32} : G d 68 39 [l0, some (.int x), l2, l3, l4, l5] st σ Q ↔ G d 68 40 [l0, some (.int x), l2, l3, l4, l5] (.int x :: st) σ Q := gs_go f_68_39 rfl
theorem f_68_40 : ft 68 40 = some (72, .invokevirtual 29, [70, 2, 0, 838]) := rfl
theorem s_68_40 {d : Nat} {t : yT} {st : List Value} {Q : xR → xS → Prop} {l0 l1 l2 l3 l4 l5 : Option Value} {a0 : Nat} {a1 : Int32} (ho : yisO 5 a0) : G (d + 1) 68 40 [l0, l1, l2, l3, l4, l5] (.int a1 :: .ref a0 :: st) (yemb t) Q ↔ xcat st ≤ 8 ∧ Cl d 70 [.ref a0, .int a1] (yemb t) (Gk (d + 1) 68 40 [l0, l1, l2, l3, l4, l5] st Q) := gs_call f_68_40 ((xinv_call (i := 40) (n := 838) (ls := [l0, l1, l2, l3, l4, l5]) (kind := 0) (σ := yemb t) (by decide)).trans (xcall_vi [.int a1, .ref a0] rfl rfl (show (2 : Nat) ≤ 3 by decide) rfl ho))
theorem f_68_41 : ft 68 41 = some (75, .ifCond .ne 5, [44]) := rfl
theorem s_68_41 {d : Nat} {σ : xS} {st : List Value} {Q : xR → xS → Prop} {l0 l1 l2 l3 l4 l5 : Option Value} {x : Int32} : G d 68 41 [l0, l1, l2, l3, l4, l5] (.int x :: st) σ Q ↔ if x ≠ 0 then G d 68 44 [l0, l1, l2, l3, l4, l5] st σ Q else G d 68 42 [l0, l1, l2, l3, l4, l5] st σ Q := gs_if f_68_41 rfl
theorem f_68_42 : ft 68 42 = some (78, .iconst 0, []) := rfl
theorem s_68_42 {d : Nat} {σ : xS} {st : List Value} {Q : xR → xS → Prop} {l0 l1 l2 l3 l4 l5 : Option Value} : G d 68 42 [l0, l1, l2, l3, l4, l5] st σ Q ↔ G d 68 43 [l0, l1, l2, l3, l4, l5] (.int (0) :: st) σ Q := gs_go f_68_42 rfl
theorem f_68_43 : ft 68 43 = some (79, .ireturn, []) := rfl
theorem s_68_43 {d : Nat} {σ : xS} {ls : xL} {Q : xR → xS → Prop} {x : Int32} : G d 68 43 ls [.int x] σ Q ↔ ybo x ∧ Q (.inl (some (.int x))) σ := gs_retb f_68_43 rfl
theorem f_68_44 : ft 68 44 = some (80, .iload 5, []) := rfl
theorem s_68_44 {d : Nat} {σ : xS} {st : List Value} {Q : xR → xS → Prop} {l0 l1 l2 l3 l4 : Option Value} {x : Int32} : G d 68 44 [l0, l1, l2, l3, l4, some (.int x)] st σ Q ↔ G d 68 45 [l0, l1, l2, l3, l4, some (.int x)] (.int x :: st) σ Q := gs_go f_68_44 rfl
theorem f_68_45 : ft 68 45 = some (82, .ifCond .eq 8, [49]) := rfl
theorem s_68_45 {d : Nat} {σ : xS} {st : List Value} {Q : xR → xS → Prop} {l0 l1 l2 l3 l4 l5 : Option Value} {x : Int32} : G d 68 45 [l0, l1, l2, l3, l4, l5] (.int x :: st) σ Q ↔ if x = 0 then G d 68 49 [l0, l1, l2, l3, l4, l5] st σ Q else G d 68 46 [l0, l1, l2, l3, l4, l5] st σ Q := gs_if f_68_45 rfl
theorem f_68_46 : ft 68 46 = some (85, .aload_n 0, []) := rfl
theorem s_68_46 {d : Nat} {σ : xS} {st : List Value} {Q : xR → xS → Prop} {l1 l2 l3 l4 l5 : Option Value} {x : Nat} : G d 68 46 [some (.ref x), l1, l2, l3, l4, l5] st σ Q ↔ G d 68 47 [some (.ref x), l1, l2, l3, l4, l5] (.ref x :: st) σ Q := gs_go f_68_46 rfl
theorem f_68_47 : ft 68 47 = some (86, .iload_n 3, []) := rfl
theorem s_68_47 {d : Nat} {σ : xS} {st : List Value} {Q : xR → xS → Prop} {l0 l1 l2 l4 l5 : Option Value} {x : Int32} : G d 68 47 [l0, l1, l2, some (.int x), l4, l5] st σ Q ↔ G d 68 48 [l0, l1, l2, some (.int x), l4, l5] (.int x :: st) σ Q := gs_go f_68_47 rfl
theorem f_68_48 : ft 68 48 = some (87, .invokevirtual 37, [71, 2, 0, 859]) := rfl
theorem s_68_48 {d : Nat} {t : yT} {st : List Value} {Q : xR → xS → Prop} {l0 l1 l2 l3 l4 l5 : Option Value} {a0 : Nat} {a1 : Int32} (ho : yisO 5 a0) : G (d + 1) 68 48 [l0, l1, l2, l3, l4, l5] (.int a1 :: .ref a0 :: st) (yemb t) Q ↔ xcat st ≤ 8 ∧ Cl d 71 [.ref a0, .int a1] (yemb t) (Gk (d + 1) 68 48 [l0, l1, l2, l3, l4, l5] st Q) := gs_call f_68_48 ((xinv_call (i := 48) (n := 859) (ls := [l0, l1, l2, l3, l4, l5]) (kind := 0) (σ := yemb t) (by decide)).trans (xcall_vi [.int a1, .ref a0] rfl rfl (show (2 : Nat) ≤ 2 by decide) rfl ho))
theorem f_68_49 : ft 68 49 = some (90, .aload_n 0, []) := rfl
theorem s_68_49 {d : Nat} {σ : xS} {st : List Value} {Q : xR → xS → Prop} {l1 l2 l3 l4 l5 : Option Value} {x : Nat} : G d 68 49 [some (.ref x), l1, l2, l3, l4, l5] st σ Q ↔ G d 68 50 [some (.ref x), l1, l2, l3, l4, l5] (.ref x :: st) σ Q := gs_go f_68_49 rfl
theorem f_68_50 : ft 68 50 = some (91, .invokevirtual 33, [69, 1, 0, 855]) := rfl
theorem s_68_50 {d : Nat} {t : yT} {st : List Value} {Q : xR → xS → Prop} {l0 l1 l2 l3 l4 l5 : Option Value} {a0 : Nat} (ho : yisO 5 a0) : G (d + 1) 68 50 [l0, l1, l2, l3, l4, l5] (.ref a0 :: st) (yemb t) Q ↔ xcat st ≤ 8 ∧ Cl d 69 [.ref a0] (yemb t) (Gk (d + 1) 68 50 [l0, l1, l2, l3, l4, l5] st Q) := gs_call f_68_50 ((xinv_call (i := 50) (n := 855) (ls := [l0, l1, l2, l3, l4, l5]) (kind := 0) (σ := yemb t) (by decide)).trans (xcall_vi [.ref a0] rfl rfl (show (1 : Nat) ≤ 1 by decide) rfl ho))
theorem f_68_51 : ft 68 51 = some (94, .istore_n 3, []) := rfl
theorem s_68_51 {d : Nat} {σ : xS} {st : List Value} {Q : xR → xS → Prop} {l0 l1 l2 l3 l4 l5 : Option Value} {x : Int32} : G d 68 51 [l0, l1, l2, l3, l4, l5] (.int x :: st) σ Q ↔ G d 68 52 [l0, l1, ykl l2, some (.int x), l4, l5] st σ Q := by
  cases l2 with
  | none => exact gs_go f_68_51 rfl
  | some v => cases v <;> exact gs_go f_68_51 rfl
theorem f_68_52 : ft 68 52 = some (95, .iinc 4 1, []) := rfl
theorem s_68_52 {d : Nat} {σ : xS} {st : List Value} {Q : xR → xS → Prop} {l0 l1 l2 l3 l5 : Option Value} {x : Int32} : G d 68 52 [l0, l1, l2, l3, some (.int x), l5] st σ Q ↔ G d 68 53 [l0, l1, l2, ykl l3, some (.int (x + 1)), l5] st σ Q := by
  cases l3 with
  | none => exact gs_go f_68_52 rfl
  | some v => cases v <;> exact gs_go f_68_52 rfl
theorem f_68_53 : ft 68 53 = some (98, .goto (-78), [13]) := rfl
theorem s_68_53 {d : Nat} {σ : xS} {st : List Value} {Q : xR → xS → Prop} {l0 l1 l2 l3 l4 l5 : Option Value} : G d 68 53 [l0, l1, l2, l3, l4, l5] st σ Q ↔ G d 68 13 [l0, l1, l2, l3, l4, l5] st σ Q := gs_go f_68_53 rfl
theorem f_68_54 : ft 68 54 = some (101, .aload_n 0, []) := rfl
theorem s_68_54 {d : Nat} {σ : xS} {st : List Value} {Q : xR → xS → Prop} {l1 l2 l3 l4 l5 : Option Value} {x : Nat} : G d 68 54 [some (.ref x), l1, l2, l3, l4, l5] st σ Q ↔ G d 68 55 [some (.ref x), l1, l2, l3, l4, l5] (.ref x :: st) σ Q := gs_go f_68_54 rfl
theorem f_68_55 : ft 68 55 = some (102, .iload_n 2, []) := rfl
theorem s_68_55 {d : Nat} {σ : xS} {st : List Value} {Q : xR → xS → Prop} {l0 l1 l3 l4 l5 : Option Value} {x : Int32} : G d 68 55 [l0, l1, some (.int x), l3, l4, l5] st σ Q ↔ G d 68 56 [l0, l1, some (.int x), l3, l4, l5] (.int x :: st) σ Q := gs_go f_68_55 rfl
theorem f_68_56 : ft 68 56 = some (103, .invokevirtual 37, [71, 2, 0, 859]) := rfl
theorem s_68_56 {d : Nat} {t : yT} {st : List Value} {Q : xR → xS → Prop} {l0 l1 l2 l3 l4 l5 : Option Value} {a0 : Nat} {a1 : Int32} (ho : yisO 5 a0) : G (d + 1) 68 56 [l0, l1, l2, l3, l4, l5] (.int a1 :: .ref a0 :: st) (yemb t) Q ↔ xcat st ≤ 8 ∧ Cl d 71 [.ref a0, .int a1] (yemb t) (Gk (d + 1) 68 56 [l0, l1, l2, l3, l4, l5] st Q) := gs_call f_68_56 ((xinv_call (i := 56) (n := 859) (ls := [l0, l1, l2, l3, l4, l5]) (kind := 0) (σ := yemb t) (by decide)).trans (xcall_vi [.int a1, .ref a0] rfl rfl (show (2 : Nat) ≤ 2 by decide) rfl ho))
theorem f_68_57 : ft 68 57 = some (106, .iconst 1, []) := rfl
theorem s_68_57 {d : Nat} {σ : xS} {st : List Value} {Q : xR → xS → Prop} {l0 l1 l2 l3 l4 l5 : Option Value} : G d 68 57 [l0, l1, l2, l3, l4, l5] st σ Q ↔ G d 68 58 [l0, l1, l2, l3, l4, l5] (.int (1) :: st) σ Q := gs_go f_68_57 rfl
theorem f_68_58 : ft 68 58 = some (107, .ireturn, []) := rfl
theorem s_68_58 {d : Nat} {σ : xS} {ls : xL} {Q : xR → xS → Prop} {x : Int32} : G d 68 58 ls [.int x] σ Q ↔ ybo x ∧ Q (.inl (some (.int x))) σ := gs_retb f_68_58 rfl
theorem f_69_0 : ft 69 0 = some (0, .aload_n 0, []) := rfl
theorem s_69_0 {d : Nat} {σ : xS} {st : List Value} {Q : xR → xS → Prop} {x : Nat} : G d 69 0 [some (.ref x)] st σ Q ↔ G d 69 1 [some (.ref x)] (.ref x :: st) σ Q := gs_go f_69_0 rfl
theorem f_69_1 : ft 69 1 = some (1, .getfield 19, [5, 0, 0, 231]) := rfl
theorem s_69_1 {d : Nat} {t : yT} {st : List Value} {Q : xR → xS → Prop} {l0 : Option Value} {a : Nat} (ho : yisO 5 a) : G d 69 1 [l0] (.ref a :: st) (yemb t) Q ↔ G d 69 2 [l0] (.ref 1 :: st) (yemb t) Q := gs_getf (c := 5) (j := 0) (q := .c 1) f_69_1 ho rfl
theorem f_69_2 : ft 69 2 = some (4, .bipush 43, []) := rfl
theorem s_69_2 {d : Nat} {σ : xS} {st : List Value} {Q : xR → xS → Prop} {l0 : Option Value} : G d 69 2 [l0] st σ Q ↔ G d 69 3 [l0] (.int (43) :: st) σ Q := gs_go f_69_2 rfl
theorem f_69_3 : ft 69 3 = some (6, .invokevirtual 46, [84, 2, 0, 842]) := rfl
theorem s_69_3 {d : Nat} {t : yT} {st : List Value} {Q : xR → xS → Prop} {l0 : Option Value} {a0 : Nat} {a1 : Int32} (ho : yisO 6 a0) : G (d + 1) 69 3 [l0] (.int a1 :: .ref a0 :: st) (yemb t) Q ↔ xcat st ≤ 8 ∧ Cl d 84 [.ref a0, .int a1] (yemb t) (Gk (d + 1) 69 3 [l0] st Q) := gs_call f_69_3 ((xinv_call (i := 3) (n := 842) (ls := [l0]) (kind := 0) (σ := yemb t) (by decide)).trans (xcall_vi [.int a1, .ref a0] rfl rfl (show (2 : Nat) ≤ 2 by decide) rfl ho))
theorem f_69_4 : ft 69 4 = some (9, .ifCond .eq 6, [7]) := rfl
theorem s_69_4 {d : Nat} {σ : xS} {st : List Value} {Q : xR → xS → Prop} {l0 : Option Value} {x : Int32} : G d 69 4 [l0] (.int x :: st) σ Q ↔ if x = 0 then G d 69 7 [l0] st σ Q else G d 69 5 [l0] st σ Q := gs_if f_69_4 rfl
theorem f_69_5 : ft 69 5 = some (12, .bipush (-3), []) := rfl
theorem s_69_5 {d : Nat} {σ : xS} {st : List Value} {Q : xR → xS → Prop} {l0 : Option Value} : G d 69 5 [l0] st σ Q ↔ G d 69 6 [l0] (.int (-3) :: st) σ Q := gs_go f_69_5 rfl
theorem f_69_6 : ft 69 6 = some (14, .ireturn, []) := rfl
theorem s_69_6 {d : Nat} {σ : xS} {ls : xL} {Q : xR → xS → Prop} {x : Int32} : G d 69 6 ls [.int x] σ Q ↔ Q (.inl (some (.int x))) σ := gs_reti f_69_6 rfl
theorem f_69_7 : ft 69 7 = some (15, .aload_n 0, []) := rfl
theorem s_69_7 {d : Nat} {σ : xS} {st : List Value} {Q : xR → xS → Prop} {x : Nat} : G d 69 7 [some (.ref x)] st σ Q ↔ G d 69 8 [some (.ref x)] (.ref x :: st) σ Q := gs_go f_69_7 rfl
theorem f_69_8 : ft 69 8 = some (16, .getfield 19, [5, 0, 0, 231]) := rfl
theorem s_69_8 {d : Nat} {t : yT} {st : List Value} {Q : xR → xS → Prop} {l0 : Option Value} {a : Nat} (ho : yisO 5 a) : G d 69 8 [l0] (.ref a :: st) (yemb t) Q ↔ G d 69 9 [l0] (.ref 1 :: st) (yemb t) Q := gs_getf (c := 5) (j := 0) (q := .c 1) f_69_8 ho rfl
theorem f_69_9 : ft 69 9 = some (19, .bipush 45, []) := rfl
theorem s_69_9 {d : Nat} {σ : xS} {st : List Value} {Q : xR → xS → Prop} {l0 : Option Value} : G d 69 9 [l0] st σ Q ↔ G d 69 10 [l0] (.int (45) :: st) σ Q := gs_go f_69_9 rfl
theorem f_69_10 : ft 69 10 = some (21, .invokevirtual 46, [84, 2, 0, 842]) := rfl
theorem s_69_10 {d : Nat} {t : yT} {st : List Value} {Q : xR → xS → Prop} {l0 : Option Value} {a0 : Nat} {a1 : Int32} (ho : yisO 6 a0) : G (d + 1) 69 10 [l0] (.int a1 :: .ref a0 :: st) (yemb t) Q ↔ xcat st ≤ 8 ∧ Cl d 84 [.ref a0, .int a1] (yemb t) (Gk (d + 1) 69 10 [l0] st Q) := gs_call f_69_10 ((xinv_call (i := 10) (n := 842) (ls := [l0]) (kind := 0) (σ := yemb t) (by decide)).trans (xcall_vi [.int a1, .ref a0] rfl rfl (show (2 : Nat) ≤ 2 by decide) rfl ho))
theorem f_69_11 : ft 69 11 = some (24, .ifCond .eq 6, [14]) := rfl
theorem s_69_11 {d : Nat} {σ : xS} {st : List Value} {Q : xR → xS → Prop} {l0 : Option Value} {x : Int32} : G d 69 11 [l0] (.int x :: st) σ Q ↔ if x = 0 then G d 69 14 [l0] st σ Q else G d 69 12 [l0] st σ Q := gs_if f_69_11 rfl
theorem f_69_12 : ft 69 12 = some (27, .bipush (-4), []) := rfl
theorem s_69_12 {d : Nat} {σ : xS} {st : List Value} {Q : xR → xS → Prop} {l0 : Option Value} : G d 69 12 [l0] st σ Q ↔ G d 69 13 [l0] (.int (-4) :: st) σ Q := gs_go f_69_12 rfl
theorem f_69_13 : ft 69 13 = some (29, .ireturn, []) := rfl
theorem s_69_13 {d : Nat} {σ : xS} {ls : xL} {Q : xR → xS → Prop} {x : Int32} : G d 69 13 ls [.int x] σ Q ↔ Q (.inl (some (.int x))) σ := gs_reti f_69_13 rfl
theorem f_69_14 : ft 69 14 = some (30, .aload_n 0, []) := rfl
theorem s_69_14 {d : Nat} {σ : xS} {st : List Value} {Q : xR → xS → Prop} {x : Nat} : G d 69 14 [some (.ref x)] st σ Q ↔ G d 69 15 [some (.ref x)] (.ref x :: st) σ Q := gs_go f_69_14 rfl
theorem f_69_15 : ft 69 15 = some (31, .getfield 19, [5, 0, 0, 231]) := rfl
theorem s_69_15 {d : Nat} {t : yT} {st : List Value} {Q : xR → xS → Prop} {l0 : Option Value} {a : Nat} (ho : yisO 5 a) : G d 69 15 [l0] (.ref a :: st) (yemb t) Q ↔ G d 69 16 [l0] (.ref 1 :: st) (yemb t) Q := gs_getf (c := 5) (j := 0) (q := .c 1) f_69_15 ho rfl
theorem f_69_16 : ft 69 16 = some (34, .bipush 42, []) := rfl
theorem s_69_16 {d : Nat} {σ : xS} {st : List Value} {Q : xR → xS → Prop} {l0 : Option Value} : G d 69 16 [l0] st σ Q ↔ G d 69 17 [l0] (.int (42) :: st) σ Q := gs_go f_69_16 rfl
theorem f_69_17 : ft 69 17 = some (36, .invokevirtual 46, [84, 2, 0, 842]) := rfl
theorem s_69_17 {d : Nat} {t : yT} {st : List Value} {Q : xR → xS → Prop} {l0 : Option Value} {a0 : Nat} {a1 : Int32} (ho : yisO 6 a0) : G (d + 1) 69 17 [l0] (.int a1 :: .ref a0 :: st) (yemb t) Q ↔ xcat st ≤ 8 ∧ Cl d 84 [.ref a0, .int a1] (yemb t) (Gk (d + 1) 69 17 [l0] st Q) := gs_call f_69_17 ((xinv_call (i := 17) (n := 842) (ls := [l0]) (kind := 0) (σ := yemb t) (by decide)).trans (xcall_vi [.int a1, .ref a0] rfl rfl (show (2 : Nat) ≤ 2 by decide) rfl ho))
theorem f_69_18 : ft 69 18 = some (39, .ifCond .eq 6, [21]) := rfl
theorem s_69_18 {d : Nat} {σ : xS} {st : List Value} {Q : xR → xS → Prop} {l0 : Option Value} {x : Int32} : G d 69 18 [l0] (.int x :: st) σ Q ↔ if x = 0 then G d 69 21 [l0] st σ Q else G d 69 19 [l0] st σ Q := gs_if f_69_18 rfl
theorem f_69_19 : ft 69 19 = some (42, .bipush (-5), []) := rfl
theorem s_69_19 {d : Nat} {σ : xS} {st : List Value} {Q : xR → xS → Prop} {l0 : Option Value} : G d 69 19 [l0] st σ Q ↔ G d 69 20 [l0] (.int (-5) :: st) σ Q := gs_go f_69_19 rfl
theorem f_69_20 : ft 69 20 = some (44, .ireturn, []) := rfl
theorem s_69_20 {d : Nat} {σ : xS} {ls : xL} {Q : xR → xS → Prop} {x : Int32} : G d 69 20 ls [.int x] σ Q ↔ Q (.inl (some (.int x))) σ := gs_reti f_69_20 rfl
theorem f_69_21 : ft 69 21 = some (45, .aload_n 0, []) := rfl
theorem s_69_21 {d : Nat} {σ : xS} {st : List Value} {Q : xR → xS → Prop} {x : Nat} : G d 69 21 [some (.ref x)] st σ Q ↔ G d 69 22 [some (.ref x)] (.ref x :: st) σ Q := gs_go f_69_21 rfl
theorem f_69_22 : ft 69 22 = some (46, .getfield 19, [5, 0, 0, 231]) := rfl
theorem s_69_22 {d : Nat} {t : yT} {st : List Value} {Q : xR → xS → Prop} {l0 : Option Value} {a : Nat} (ho : yisO 5 a) : G d 69 22 [l0] (.ref a :: st) (yemb t) Q ↔ G d 69 23 [l0] (.ref 1 :: st) (yemb t) Q := gs_getf (c := 5) (j := 0) (q := .c 1) f_69_22 ho rfl
theorem f_69_23 : ft 69 23 = some (49, .bipush 47, []) := rfl
theorem s_69_23 {d : Nat} {σ : xS} {st : List Value} {Q : xR → xS → Prop} {l0 : Option Value} : G d 69 23 [l0] st σ Q ↔ G d 69 24 [l0] (.int (47) :: st) σ Q := gs_go f_69_23 rfl
theorem f_69_24 : ft 69 24 = some (51, .invokevirtual 46, [84, 2, 0, 842]) := rfl
theorem s_69_24 {d : Nat} {t : yT} {st : List Value} {Q : xR → xS → Prop} {l0 : Option Value} {a0 : Nat} {a1 : Int32} (ho : yisO 6 a0) : G (d + 1) 69 24 [l0] (.int a1 :: .ref a0 :: st) (yemb t) Q ↔ xcat st ≤ 8 ∧ Cl d 84 [.ref a0, .int a1] (yemb t) (Gk (d + 1) 69 24 [l0] st Q) := gs_call f_69_24 ((xinv_call (i := 24) (n := 842) (ls := [l0]) (kind := 0) (σ := yemb t) (by decide)).trans (xcall_vi [.int a1, .ref a0] rfl rfl (show (2 : Nat) ≤ 2 by decide) rfl ho))
theorem f_69_25 : ft 69 25 = some (54, .ifCond .eq 8, [28]) := rfl
theorem s_69_25 {d : Nat} {σ : xS} {st : List Value} {Q : xR → xS → Prop} {l0 : Option Value} {x : Int32} : G d 69 25 [l0] (.int x :: st) σ Q ↔ if x = 0 then G d 69 28 [l0] st σ Q else G d 69 26 [l0] st σ Q := gs_if f_69_25 rfl
theorem f_69_26 : ft 69 26 = some (57, .bipush (-6), []) := rfl
theorem s_69_26 {d : Nat} {σ : xS} {st : List Value} {Q : xR → xS → Prop} {l0 : Option Value} : G d 69 26 [l0] st σ Q ↔ G d 69 27 [l0] (.int (-6) :: st) σ Q := gs_go f_69_26 rfl
theorem f_69_27 : ft 69 27 = some (59, .goto 4, [29]) := rfl
theorem s_69_27 {d : Nat} {σ : xS} {st : List Value} {Q : xR → xS → Prop} {l0 : Option Value} : G d 69 27 [l0] st σ Q ↔ G d 69 29 [l0] st σ Q := gs_go f_69_27 rfl
theorem f_69_28 : ft 69 28 = some (62, .iconst 0, []) := rfl
theorem s_69_28 {d : Nat} {σ : xS} {st : List Value} {Q : xR → xS → Prop} {l0 : Option Value} : G d 69 28 [l0] st σ Q ↔ G d 69 29 [l0] (.int (0) :: st) σ Q := gs_go f_69_28 rfl
theorem f_69_29 : ft 69 29 = some (63, .ireturn, []) := rfl
theorem s_69_29 {d : Nat} {σ : xS} {ls : xL} {Q : xR → xS → Prop} {x : Int32} : G d 69 29 ls [.int x] σ Q ↔ Q (.inl (some (.int x))) σ := gs_reti f_69_29 rfl
theorem f_70_0 : ft 70 0 = some (0, .aload_n 0, []) := rfl
theorem s_70_0 {d : Nat} {σ : xS} {st : List Value} {Q : xR → xS → Prop} {l1 l2 : Option Value} {x : Nat} : G d 70 0 [some (.ref x), l1, l2] st σ Q ↔ G d 70 1 [some (.ref x), l1, l2] (.ref x :: st) σ Q := gs_go f_70_0 rfl
theorem f_70_1 : ft 70 1 = some (1, .getfield 19, [5, 0, 0, 231]) := rfl
theorem s_70_1 {d : Nat} {t : yT} {st : List Value} {Q : xR → xS → Prop} {l0 l1 l2 : Option Value} {a : Nat} (ho : yisO 5 a) : G d 70 1 [l0, l1, l2] (.ref a :: st) (yemb t) Q ↔ G d 70 2 [l0, l1, l2] (.ref 1 :: st) (yemb t) Q := gs_getf (c := 5) (j := 0) (q := .c 1) f_70_1 ho rfl
theorem f_70_2 : ft 70 2 = some (4, .bipush 40, []) := rfl
theorem s_70_2 {d : Nat} {σ : xS} {st : List Value} {Q : xR → xS → Prop} {l0 l1 l2 : Option Value} : G d 70 2 [l0, l1, l2] st σ Q ↔ G d 70 3 [l0, l1, l2] (.int (40) :: st) σ Q := gs_go f_70_2 rfl
theorem f_70_3 : ft 70 3 = some (6, .invokevirtual 46, [84, 2, 0, 842]) := rfl
theorem s_70_3 {d : Nat} {t : yT} {st : List Value} {Q : xR → xS → Prop} {l0 l1 l2 : Option Value} {a0 : Nat} {a1 : Int32} (ho : yisO 6 a0) : G (d + 1) 70 3 [l0, l1, l2] (.int a1 :: .ref a0 :: st) (yemb t) Q ↔ xcat st ≤ 8 ∧ Cl d 84 [.ref a0, .int a1] (yemb t) (Gk (d + 1) 70 3 [l0, l1, l2] st Q) := gs_call f_70_3 ((xinv_call (i := 3) (n := 842) (ls := [l0, l1, l2]) (kind := 0) (σ := yemb t) (by decide)).trans (xcall_vi [.int a1, .ref a0] rfl rfl (show (2 : Nat) ≤ 2 by decide) rfl ho))
theorem f_70_4 : ft 70 4 = some (9, .ifCond .eq 53, [31]) := rfl
theorem s_70_4 {d : Nat} {σ : xS} {st : List Value} {Q : xR → xS → Prop} {l0 l1 l2 : Option Value} {x : Int32} : G d 70 4 [l0, l1, l2] (.int x :: st) σ Q ↔ if x = 0 then G d 70 31 [l0, l1, l2] st σ Q else G d 70 5 [l0, l1, l2] st σ Q := gs_if f_70_4 rfl
theorem f_70_5 : ft 70 5 = some (12, .iload_n 1, []) := rfl
theorem s_70_5 {d : Nat} {σ : xS} {st : List Value} {Q : xR → xS → Prop} {l0 l2 : Option Value} {x : Int32} : G d 70 5 [l0, some (.int x), l2] st σ Q ↔ G d 70 6 [l0, some (.int x), l2] (.int x :: st) σ Q := gs_go f_70_5 rfl
theorem f_70_6 : ft 70 6 = some (13, .iconst 4, []) := rfl
theorem s_70_6 {d : Nat} {σ : xS} {st : List Value} {Q : xR → xS → Prop} {l0 l1 l2 : Option Value} : G d 70 6 [l0, l1, l2] st σ Q ↔ G d 70 7 [l0, l1, l2] (.int (4) :: st) σ Q := gs_go f_70_6 rfl
theorem f_70_7 : ft 70 7 = some (14, .if_icmp .lt 13, [13]) := rfl
theorem s_70_7 {d : Nat} {σ : xS} {st : List Value} {Q : xR → xS → Prop} {l0 l1 l2 : Option Value} {x y : Int32} : G d 70 7 [l0, l1, l2] (.int y :: .int x :: st) σ Q ↔ if x < y then G d 70 13 [l0, l1, l2] st σ Q else G d 70 8 [l0, l1, l2] st σ Q := gs_if f_70_7 rfl
theorem f_70_8 : ft 70 8 = some (17, .aload_n 0, []) := rfl
theorem s_70_8 {d : Nat} {σ : xS} {st : List Value} {Q : xR → xS → Prop} {l1 l2 : Option Value} {x : Nat} : G d 70 8 [some (.ref x), l1, l2] st σ Q ↔ G d 70 9 [some (.ref x), l1, l2] (.ref x :: st) σ Q := gs_go f_70_8 rfl
theorem f_70_9 : ft 70 9 = some (18, .getfield 19, [5, 0, 0, 231]) := rfl
theorem s_70_9 {d : Nat} {t : yT} {st : List Value} {Q : xR → xS → Prop} {l0 l1 l2 : Option Value} {a : Nat} (ho : yisO 5 a) : G d 70 9 [l0, l1, l2] (.ref a :: st) (yemb t) Q ↔ G d 70 10 [l0, l1, l2] (.ref 1 :: st) (yemb t) Q := gs_getf (c := 5) (j := 0) (q := .c 1) f_70_9 ho rfl
theorem f_70_10 : ft 70 10 = some (21, .bipush (-6), []) := rfl
theorem s_70_10 {d : Nat} {σ : xS} {st : List Value} {Q : xR → xS → Prop} {l0 l1 l2 : Option Value} : G d 70 10 [l0, l1, l2] st σ Q ↔ G d 70 11 [l0, l1, l2] (.int (-6) :: st) σ Q := gs_go f_70_10 rfl
theorem f_70_11 : ft 70 11 = some (23, .invokevirtual 50, [90, 2, 0, 843]) := rfl
theorem s_70_11 {d : Nat} {t : yT} {st : List Value} {Q : xR → xS → Prop} {l0 l1 l2 : Option Value} {a0 : Nat} {a1 : Int32} (ho : yisO 6 a0) : G (d + 1) 70 11 [l0, l1, l2] (.int a1 :: .ref a0 :: st) (yemb t) Q ↔ xcat st ≤ 8 ∧ Cl d 90 [.ref a0, .int a1] (yemb t) (Gk (d + 1) 70 11 [l0, l1, l2] st Q) := gs_call f_70_11 ((xinv_call (i := 11) (n := 843) (ls := [l0, l1, l2]) (kind := 0) (σ := yemb t) (by decide)).trans (xcall_vi [.int a1, .ref a0] rfl rfl (show (2 : Nat) ≤ 2 by decide) rfl ho))
theorem f_70_12 : ft 70 12 = some (26, .ireturn, []) := rfl
theorem s_70_12 {d : Nat} {σ : xS} {ls : xL} {Q : xR → xS → Prop} {x : Int32} : G d 70 12 ls [.int x] σ Q ↔ ybo x ∧ Q (.inl (some (.int x))) σ := gs_retb f_70_12 rfl
theorem f_70_13 : ft 70 13 = some (27, .aload_n 0, []) := rfl
theorem s_70_13 {d : Nat} {σ : xS} {st : List Value} {Q : xR → xS → Prop} {l1 l2 : Option Value} {x : Nat} : G d 70 13 [some (.ref x), l1, l2] st σ Q ↔ G d 70 14 [some (.ref x), l1, l2] (.ref x :: st) σ Q := gs_go f_70_13 rfl
theorem f_70_14 : ft 70 14 = some (28, .getfield 19, [5, 0, 0, 231]) := rfl
theorem s_70_14 {d : Nat} {t : yT} {st : List Value} {Q : xR → xS → Prop} {l0 l1 l2 : Option Value} {a : Nat} (ho : yisO 5 a) : G d 70 14 [l0, l1, l2] (.ref a :: st) (yemb t) Q ↔ G d 70 15 [l0, l1, l2] (.ref 1 :: st) (yemb t) Q := gs_getf (c := 5) (j := 0) (q := .c 1) f_70_14 ho rfl
theorem f_70_15 : ft 70 15 = some (31, .invokevirtual 41, [80, 1, 0, 844]) := rfl
theorem s_70_15 {d : Nat} {t : yT} {st : List Value} {Q : xR → xS → Prop} {l0 l1 l2 : Option Value} {a0 : Nat} (ho : yisO 6 a0) : G (d + 1) 70 15 [l0, l1, l2] (.ref a0 :: st) (yemb t) Q ↔ xcat st ≤ 8 ∧ Cl d 80 [.ref a0] (yemb t) (Gk (d + 1) 70 15 [l0, l1, l2] st Q) := gs_call f_70_15 ((xinv_call (i := 15) (n := 844) (ls := [l0, l1, l2]) (kind := 0) (σ := yemb t) (by decide)).trans (xcall_vi [.ref a0] rfl rfl (show (1 : Nat) ≤ 1 by decide) rfl ho))
theorem f_70_16 : ft 70 16 = some (34, .aload_n 0, []) := rfl
theorem s_70_16 {d : Nat} {σ : xS} {st : List Value} {Q : xR → xS → Prop} {l1 l2 : Option Value} {x : Nat} : G d 70 16 [some (.ref x), l1, l2] st σ Q ↔ G d 70 17 [some (.ref x), l1, l2] (.ref x :: st) σ Q := gs_go f_70_16 rfl
theorem f_70_17 : ft 70 17 = some (35, .iload_n 1, []) := rfl
theorem s_70_17 {d : Nat} {σ : xS} {st : List Value} {Q : xR → xS → Prop} {l0 l2 : Option Value} {x : Int32} : G d 70 17 [l0, some (.int x), l2] st σ Q ↔ G d 70 18 [l0, some (.int x), l2] (.int x :: st) σ Q := gs_go f_70_17 rfl
theorem f_70_18 : ft 70 18 = some (36, .iconst 1, []) := rfl
theorem s_70_18 {d : Nat} {σ : xS} {st : List Value} {Q : xR → xS → Prop} {l0 l1 l2 : Option Value} : G d 70 18 [l0, l1, l2] st σ Q ↔ G d 70 19 [l0, l1, l2] (.int (1) :: st) σ Q := gs_go f_70_18 rfl
theorem f_70_19 : ft 70 19 = some (37, .iadd, []) := rfl
theorem s_70_19 {d : Nat} {σ : xS} {st : List Value} {Q : xR → xS → Prop} {l0 l1 l2 : Option Value} {x y : Int32} : G d 70 19 [l0, l1, l2] (.int y :: .int x :: st) σ Q ↔ G d 70 20 [l0, l1, l2] (.int (x + y) :: st) σ Q := gs_go f_70_19 rfl
theorem f_70_20 : ft 70 20 = some (38, .invokevirtual 53, [68, 2, 0, 845]) := rfl
theorem s_70_20 {d : Nat} {t : yT} {st : List Value} {Q : xR → xS → Prop} {l0 l1 l2 : Option Value} {a0 : Nat} {a1 : Int32} (ho : yisO 5 a0) : G (d + 1) 70 20 [l0, l1, l2] (.int a1 :: .ref a0 :: st) (yemb t) Q ↔ xcat st ≤ 8 ∧ Cl d 68 [.ref a0, .int a1] (yemb t) (Gk (d + 1) 70 20 [l0, l1, l2] st Q) := gs_call f_70_20 ((xinv_call (i := 20) (n := 845) (ls := [l0, l1, l2]) (kind := 0) (σ := yemb t) (by decide)).trans (xcall_vi [.int a1, .ref a0] rfl rfl (show (2 : Nat) ≤ 6 by decide) rfl ho))
theorem f_70_21 : ft 70 21 = some (41, .ifCond .eq 19, [29]) := rfl
theorem s_70_21 {d : Nat} {σ : xS} {st : List Value} {Q : xR → xS → Prop} {l0 l1 l2 : Option Value} {x : Int32} : G d 70 21 [l0, l1, l2] (.int x :: st) σ Q ↔ if x = 0 then G d 70 29 [l0, l1, l2] st σ Q else G d 70 22 [l0, l1, l2] st σ Q := gs_if f_70_21 rfl
theorem f_70_22 : ft 70 22 = some (44, .aload_n 0, []) := rfl
theorem s_70_22 {d : Nat} {σ : xS} {st : List Value} {Q : xR → xS → Prop} {l1 l2 : Option Value} {x : Nat} : G d 70 22 [some (.ref x), l1, l2] st σ Q ↔ G d 70 23 [some (.ref x), l1, l2] (.ref x :: st) σ Q := gs_go f_70_22 rfl
theorem f_70_23 : ft 70 23 = some (45, .getfield 19, [5, 0, 0, 231]) := rfl
theorem s_70_23 {d : Nat} {t : yT} {st : List Value} {Q : xR → xS → Prop} {l0 l1 l2 : Option Value} {a : Nat} (ho : yisO 5 a) : G d 70 23 [l0, l1, l2] (.ref a :: st) (yemb t) Q ↔ G d 70 24 [l0, l1, l2] (.ref 1 :: st) (yemb t) Q := gs_getf (c := 5) (j := 0) (q := .c 1) f_70_23 ho rfl
theorem f_70_24 : ft 70 24 = some (48, .bipush 41, []) := rfl
theorem s_70_24 {d : Nat} {σ : xS} {st : List Value} {Q : xR → xS → Prop} {l0 l1 l2 : Option Value} : G d 70 24 [l0, l1, l2] st σ Q ↔ G d 70 25 [l0, l1, l2] (.int (41) :: st) σ Q := gs_go f_70_24 rfl
theorem f_70_25 : ft 70 25 = some (50, .invokevirtual 56, [87, 2, 0, 846]) := rfl
theorem s_70_25 {d : Nat} {t : yT} {st : List Value} {Q : xR → xS → Prop} {l0 l1 l2 : Option Value} {a0 : Nat} {a1 : Int32} (ho : yisO 6 a0) : G (d + 1) 70 25 [l0, l1, l2] (.int a1 :: .ref a0 :: st) (yemb t) Q ↔ xcat st ≤ 8 ∧ Cl d 87 [.ref a0, .int a1] (yemb t) (Gk (d + 1) 70 25 [l0, l1, l2] st Q) := gs_call f_70_25 ((xinv_call (i := 25) (n := 846) (ls := [l0, l1, l2]) (kind := 0) (σ := yemb t) (by decide)).trans (xcall_vi [.int a1, .ref a0] rfl rfl (show (2 : Nat) ≤ 2 by decide) rfl ho))
theorem f_70_26 : ft 70 26 = some (53, .ifCond .eq 7, [29]) := rfl
theorem s_70_26 {d : Nat} {σ : xS} {st : List Value} {Q : xR → xS → Prop} {l0 l1 l2 : Option Value} {x : Int32} : G d 70 26 [l0, l1, l2] (.int x :: st) σ Q ↔ if x = 0 then G d 70 29 [l0, l1, l2] st σ Q else G d 70 27 [l0, l1, l2] st σ Q := gs_if f_70_26 rfl
theorem f_70_27 : ft 70 27 = some (56, .iconst 1, []) := rfl
theorem s_70_27 {d : Nat} {σ : xS} {st : List Value} {Q : xR → xS → Prop} {l0 l1 l2 : Option Value} : G d 70 27 [l0, l1, l2] st σ Q ↔ G d 70 28 [l0, l1, l2] (.int (1) :: st) σ Q := gs_go f_70_27 rfl
theorem f_70_28 : ft 70 28 = some (57, .goto 4, [30]) := rfl
theorem s_70_28 {d : Nat} {σ : xS} {st : List Value} {Q : xR → xS → Prop} {l0 l1 l2 : Option Value} : G d 70 28 [l0, l1, l2] st σ Q ↔ G d 70 30 [l0, l1, l2] st σ Q := gs_go f_70_28 rfl
theorem f_70_29 : ft 70 29 = some (60, .iconst 0, []) := rfl
theorem s_70_29 {d : Nat} {σ : xS} {st : List Value} {Q : xR → xS → Prop} {l0 l1 l2 : Option Value} : G d 70 29 [l0, l1, l2] st σ Q ↔ G d 70 30 [l0, l1, l2] (.int (0) :: st) σ Q := gs_go f_70_29 rfl
theorem f_70_30 : ft 70 30 = some (61, .ireturn, []) := rfl
theorem s_70_30 {d : Nat} {σ : xS} {ls : xL} {Q : xR → xS → Prop} {x : Int32} : G d 70 30 ls [.int x] σ Q ↔ ybo x ∧ Q (.inl (some (.int x))) σ := gs_retb f_70_30 rfl
theorem f_70_31 : ft 70 31 = some (62, .aload_n 0, []) := rfl
theorem s_70_31 {d : Nat} {σ : xS} {st : List Value} {Q : xR → xS → Prop} {l1 l2 : Option Value} {x : Nat} : G d 70 31 [some (.ref x), l1, l2] st σ Q ↔ G d 70 32 [some (.ref x), l1, l2] (.ref x :: st) σ Q := gs_go f_70_31 rfl
theorem f_70_32 : ft 70 32 = some (63, .getfield 19, [5, 0, 0, 231]) := rfl
theorem s_70_32 {d : Nat} {t : yT} {st : List Value} {Q : xR → xS → Prop} {l0 l1 l2 : Option Value} {a : Nat} (ho : yisO 5 a) : G d 70 32 [l0, l1, l2] (.ref a :: st) (yemb t) Q ↔ G d 70 33 [l0, l1, l2] (.ref 1 :: st) (yemb t) Q := gs_getf (c := 5) (j := 0) (q := .c 1) f_70_32 ho rfl
theorem f_70_33 : ft 70 33 = some (66, .ldc 59, [1, 13, 847]) := rfl
theorem s_70_33 {d : Nat} {σ : xS} {st : List Value} {Q : xR → xS → Prop} {l0 l1 l2 : Option Value} : G d 70 33 [l0, l1, l2] st σ Q ↔ G d 70 34 [l0, l1, l2] (.ref 1000113 :: st) σ Q := gs_go f_70_33 rfl
theorem f_70_34 : ft 70 34 = some (68, .invokevirtual 61, [85, 2, 0, 848]) := rfl
theorem s_70_34 {d : Nat} {t : yT} {st : List Value} {Q : xR → xS → Prop} {l0 l1 l2 : Option Value} {a0 : Nat} {a1 : Nat} (ho : yisO 6 a0) : G (d + 1) 70 34 [l0, l1, l2] (.ref a1 :: .ref a0 :: st) (yemb t) Q ↔ xcat st ≤ 8 ∧ Cl d 85 [.ref a0, .ref a1] (yemb t) (Gk (d + 1) 70 34 [l0, l1, l2] st Q) := gs_call f_70_34 ((xinv_call (i := 34) (n := 848) (ls := [l0, l1, l2]) (kind := 0) (σ := yemb t) (by decide)).trans (xcall_vi [.ref a1, .ref a0] rfl rfl (show (2 : Nat) ≤ 3 by decide) rfl ho))
theorem f_70_35 : ft 70 35 = some (71, .ifCond .ne 15, [41]) := rfl
theorem s_70_35 {d : Nat} {σ : xS} {st : List Value} {Q : xR → xS → Prop} {l0 l1 l2 : Option Value} {x : Int32} : G d 70 35 [l0, l1, l2] (.int x :: st) σ Q ↔ if x ≠ 0 then G d 70 41 [l0, l1, l2] st σ Q else G d 70 36 [l0, l1, l2] st σ Q := gs_if f_70_35 rfl
theorem f_70_36 : ft 70 36 = some (74, .aload_n 0, []) := rfl
theorem s_70_36 {d : Nat} {σ : xS} {st : List Value} {Q : xR → xS → Prop} {l1 l2 : Option Value} {x : Nat} : G d 70 36 [some (.ref x), l1, l2] st σ Q ↔ G d 70 37 [some (.ref x), l1, l2] (.ref x :: st) σ Q := gs_go f_70_36 rfl
theorem f_70_37 : ft 70 37 = some (75, .getfield 19, [5, 0, 0, 231]) := rfl
theorem s_70_37 {d : Nat} {t : yT} {st : List Value} {Q : xR → xS → Prop} {l0 l1 l2 : Option Value} {a : Nat} (ho : yisO 5 a) : G d 70 37 [l0, l1, l2] (.ref a :: st) (yemb t) Q ↔ G d 70 38 [l0, l1, l2] (.ref 1 :: st) (yemb t) Q := gs_getf (c := 5) (j := 0) (q := .c 1) f_70_37 ho rfl
theorem f_70_38 : ft 70 38 = some (78, .ldc 65, [1, 7, 849]) := rfl
theorem s_70_38 {d : Nat} {σ : xS} {st : List Value} {Q : xR → xS → Prop} {l0 l1 l2 : Option Value} : G d 70 38 [l0, l1, l2] st σ Q ↔ G d 70 39 [l0, l1, l2] (.ref 1000107 :: st) σ Q := gs_go f_70_38 rfl
theorem f_70_39 : ft 70 39 = some (80, .invokevirtual 61, [85, 2, 0, 848]) := rfl
theorem s_70_39 {d : Nat} {t : yT} {st : List Value} {Q : xR → xS → Prop} {l0 l1 l2 : Option Value} {a0 : Nat} {a1 : Nat} (ho : yisO 6 a0) : G (d + 1) 70 39 [l0, l1, l2] (.ref a1 :: .ref a0 :: st) (yemb t) Q ↔ xcat st ≤ 8 ∧ Cl d 85 [.ref a0, .ref a1] (yemb t) (Gk (d + 1) 70 39 [l0, l1, l2] st Q) := gs_call f_70_39 ((xinv_call (i := 39) (n := 848) (ls := [l0, l1, l2]) (kind := 0) (σ := yemb t) (by decide)).trans (xcall_vi [.ref a1, .ref a0] rfl rfl (show (2 : Nat) ≤ 3 by decide) rfl ho))
theorem f_70_40 : ft 70 40 = some (83, .ifCond .eq 34, [56]) := rfl
theorem s_70_40 {d : Nat} {σ : xS} {st : List Value} {Q : xR → xS → Prop} {l0 l1 l2 : Option Value} {x : Int32} : G d 70 40 [l0, l1, l2] (.int x :: st) σ Q ↔ if x = 0 then G d 70 56 [l0, l1, l2] st σ Q else G d 70 41 [l0, l1, l2] st σ Q := gs_if f_70_40 rfl
theorem f_70_41 : ft 70 41 = some (86, .aload_n 0, []) := rfl
theorem s_70_41 {d : Nat} {σ : xS} {st : List Value} {Q : xR → xS → Prop} {l1 l2 : Option Value} {x : Nat} : G d 70 41 [some (.ref x), l1, l2] st σ Q ↔ G d 70 42 [some (.ref x), l1, l2] (.ref x :: st) σ Q := gs_go f_70_41 rfl
theorem f_70_42 : ft 70 42 = some (87, .aload_n 0, []) := rfl
theorem s_70_42 {d : Nat} {σ : xS} {st : List Value} {Q : xR → xS → Prop} {l1 l2 : Option Value} {x : Nat} : G d 70 42 [some (.ref x), l1, l2] st σ Q ↔ G d 70 43 [some (.ref x), l1, l2] (.ref x :: st) σ Q := gs_go f_70_42 rfl
theorem f_70_43 : ft 70 43 = some (88, .getfield 19, [5, 0, 0, 231]) := rfl
theorem s_70_43 {d : Nat} {t : yT} {st : List Value} {Q : xR → xS → Prop} {l0 l1 l2 : Option Value} {a : Nat} (ho : yisO 5 a) : G d 70 43 [l0, l1, l2] (.ref a :: st) (yemb t) Q ↔ G d 70 44 [l0, l1, l2] (.ref 1 :: st) (yemb t) Q := gs_getf (c := 5) (j := 0) (q := .c 1) f_70_43 ho rfl
theorem f_70_44 : ft 70 44 = some (91, .ldc 59, [1, 13, 847]) := rfl
theorem s_70_44 {d : Nat} {σ : xS} {st : List Value} {Q : xR → xS → Prop} {l0 l1 l2 : Option Value} : G d 70 44 [l0, l1, l2] st σ Q ↔ G d 70 45 [l0, l1, l2] (.ref 1000113 :: st) σ Q := gs_go f_70_44 rfl
theorem f_70_45 : ft 70 45 = some (93, .invokevirtual 61, [85, 2, 0, 848]) := rfl
theorem s_70_45 {d : Nat} {t : yT} {st : List Value} {Q : xR → xS → Prop} {l0 l1 l2 : Option Value} {a0 : Nat} {a1 : Nat} (ho : yisO 6 a0) : G (d + 1) 70 45 [l0, l1, l2] (.ref a1 :: .ref a0 :: st) (yemb t) Q ↔ xcat st ≤ 8 ∧ Cl d 85 [.ref a0, .ref a1] (yemb t) (Gk (d + 1) 70 45 [l0, l1, l2] st Q) := gs_call f_70_45 ((xinv_call (i := 45) (n := 848) (ls := [l0, l1, l2]) (kind := 0) (σ := yemb t) (by decide)).trans (xcall_vi [.ref a1, .ref a0] rfl rfl (show (2 : Nat) ≤ 3 by decide) rfl ho))
theorem f_70_46 : ft 70 46 = some (96, .ifCond .eq 7, [49]) := rfl
theorem s_70_46 {d : Nat} {σ : xS} {st : List Value} {Q : xR → xS → Prop} {l0 l1 l2 : Option Value} {x : Int32} : G d 70 46 [l0, l1, l2] (.int x :: st) σ Q ↔ if x = 0 then G d 70 49 [l0, l1, l2] st σ Q else G d 70 47 [l0, l1, l2] st σ Q := gs_if f_70_46 rfl
theorem f_70_47 : ft 70 47 = some (99, .iconst (-1), []) := rfl
theorem s_70_47 {d : Nat} {σ : xS} {st : List Value} {Q : xR → xS → Prop} {l0 l1 l2 : Option Value} : G d 70 47 [l0, l1, l2] st σ Q ↔ G d 70 48 [l0, l1, l2] (.int (-1) :: st) σ Q := gs_go f_70_47 rfl
theorem f_70_48 : ft 70 48 = some (100, .goto 5, [50]) := rfl
theorem s_70_48 {d : Nat} {σ : xS} {st : List Value} {Q : xR → xS → Prop} {l0 l1 l2 : Option Value} : G d 70 48 [l0, l1, l2] st σ Q ↔ G d 70 50 [l0, l1, l2] st σ Q := gs_go f_70_48 rfl
theorem f_70_49 : ft 70 49 = some (103, .bipush (-2), []) := rfl
theorem s_70_49 {d : Nat} {σ : xS} {st : List Value} {Q : xR → xS → Prop} {l0 l1 l2 : Option Value} : G d 70 49 [l0, l1, l2] st σ Q ↔ G d 70 50 [l0, l1, l2] (.int (-2) :: st) σ Q := gs_go f_70_49 rfl
theorem f_70_50 : ft 70 50 = some (105, .invokevirtual 67, [72, 2, 0, 850]) := rfl
theorem s_70_50 {d : Nat} {t : yT} {st : List Value} {Q : xR → xS → Prop} {l0 l1 l2 : Option Value} {a0 : Nat} {a1 : Int32} (ho : yisO 5 a0) : G (d + 1) 70 50 [l0, l1, l2] (.int a1 :: .ref a0 :: st) (yemb t) Q ↔ xcat st ≤ 8 ∧ Cl d 72 [.ref a0, .int a1] (yemb t) (Gk (d + 1) 70 50 [l0, l1, l2] st Q) := gs_call f_70_50 ((xinv_call (i := 50) (n := 850) (ls := [l0, l1, l2]) (kind := 0) (σ := yemb t) (by decide)).trans (xcall_vi [.int a1, .ref a0] rfl rfl (show (2 : Nat) ≤ 2 by decide) rfl ho))
theorem f_70_51 : ft 70 51 = some (108, .aload_n 0, []) := rfl
theorem s_70_51 {d : Nat} {σ : xS} {st : List Value} {Q : xR → xS → Prop} {l1 l2 : Option Value} {x : Nat} : G d 70 51 [some (.ref x), l1, l2] st σ Q ↔ G d 70 52 [some (.ref x), l1, l2] (.ref x :: st) σ Q := gs_go f_70_51 rfl
theorem f_70_52 : ft 70 52 = some (109, .getfield 19, [5, 0, 0, 231]) := rfl
theorem s_70_52 {d : Nat} {t : yT} {st : List Value} {Q : xR → xS → Prop} {l0 l1 l2 : Option Value} {a : Nat} (ho : yisO 5 a) : G d 70 52 [l0, l1, l2] (.ref a :: st) (yemb t) Q ↔ G d 70 53 [l0, l1, l2] (.ref 1 :: st) (yemb t) Q := gs_getf (c := 5) (j := 0) (q := .c 1) f_70_52 ho rfl
theorem f_70_53 : ft 70 53 = some (112, .invokevirtual 41, [80, 1, 0, 844]) := rfl
theorem s_70_53 {d : Nat} {t : yT} {st : List Value} {Q : xR → xS → Prop} {l0 l1 l2 : Option Value} {a0 : Nat} (ho : yisO 6 a0) : G (d + 1) 70 53 [l0, l1, l2] (.ref a0 :: st) (yemb t) Q ↔ xcat st ≤ 8 ∧ Cl d 80 [.ref a0] (yemb t) (Gk (d + 1) 70 53 [l0, l1, l2] st Q) := gs_call f_70_53 ((xinv_call (i := 53) (n := 844) (ls := [l0, l1, l2]) (kind := 0) (σ := yemb t) (by decide)).trans (xcall_vi [.ref a0] rfl rfl (show (1 : Nat) ≤ 1 by decide) rfl ho))
theorem f_70_54 : ft 70 54 = some (115, .iconst 1, []) := rfl
theorem s_70_54 {d : Nat} {σ : xS} {st : List Value} {Q : xR → xS → Prop} {l0 l1 l2 : Option Value} : G d 70 54 [l0, l1, l2] st σ Q ↔ G d 70 55 [l0, l1, l2] (.int (1) :: st) σ Q := gs_go f_70_54 rfl
theorem f_70_55 : ft 70 55 = some (116, .ireturn, []) := rfl
theorem s_70_55 {d : Nat} {σ : xS} {ls : xL} {Q : xR → xS → Prop} {x : Int32} : G d 70 55 ls [.int x] σ Q ↔ ybo x ∧ Q (.inl (some (.int x))) σ := gs_retb f_70_55 rfl
theorem f_70_56 : ft 70 56 = some (117, .aload_n 0, []) := rfl
theorem s_70_56 {d : Nat} {σ : xS} {st : List Value} {Q : xR → xS → Prop} {l1 l2 : Option Value} {x : Nat} : G d 70 56 [some (.ref x), l1, l2] st σ Q ↔ G d 70 57 [some (.ref x), l1, l2] (.ref x :: st) σ Q := gs_go f_70_56 rfl
theorem f_70_57 : ft 70 57 = some (118, .getfield 19, [5, 0, 0, 231]) := rfl
theorem s_70_57 {d : Nat} {t : yT} {st : List Value} {Q : xR → xS → Prop} {l0 l1 l2 : Option Value} {a : Nat} (ho : yisO 5 a) : G d 70 57 [l0, l1, l2] (.ref a :: st) (yemb t) Q ↔ G d 70 58 [l0, l1, l2] (.ref 1 :: st) (yemb t) Q := gs_getf (c := 5) (j := 0) (q := .c 1) f_70_57 ho rfl
theorem f_70_58 : ft 70 58 = some (121, .iconst 0, []) := rfl
theorem s_70_58 {d : Nat} {σ : xS} {st : List Value} {Q : xR → xS → Prop} {l0 l1 l2 : Option Value} : G d 70 58 [l0, l1, l2] st σ Q ↔ G d 70 59 [l0, l1, l2] (.int (0) :: st) σ Q := gs_go f_70_58 rfl
theorem f_70_59 : ft 70 59 = some (122, .sipush 9999, []) := rfl
theorem s_70_59 {d : Nat} {σ : xS} {st : List Value} {Q : xR → xS → Prop} {l0 l1 l2 : Option Value} : G d 70 59 [l0, l1, l2] st σ Q ↔ G d 70 60 [l0, l1, l2] (.int (9999) :: st) σ Q := gs_go f_70_59 rfl
theorem f_70_60 : ft 70 60 = some (125, .invokevirtual 70, [89, 3, 0, 854]) := rfl
theorem s_70_60 {d : Nat} {t : yT} {st : List Value} {Q : xR → xS → Prop} {l0 l1 l2 : Option Value} {a0 : Nat} {a1 : Int32} {a2 : Int32} (ho : yisO 6 a0) : G (d + 1) 70 60 [l0, l1, l2] (.int a2 :: .int a1 :: .ref a0 :: st) (yemb t) Q ↔ xcat st ≤ 8 ∧ Cl d 89 [.ref a0, .int a1, .int a2] (yemb t) (Gk (d + 1) 70 60 [l0, l1, l2] st Q) := gs_call f_70_60 ((xinv_call (i := 60) (n := 854) (ls := [l0, l1, l2]) (kind := 0) (σ := yemb t) (by decide)).trans (xcall_vi [.int a2, .int a1, .ref a0] rfl rfl (show (3 : Nat) ≤ 4 by decide) rfl ho))
theorem f_70_61 : ft 70 61 = some (128, .istore_n 2, []) := rfl
theorem s_70_61 {d : Nat} {σ : xS} {st : List Value} {Q : xR → xS → Prop} {l0 l1 l2 : Option Value} {x : Int32} : G d 70 61 [l0, l1, l2] (.int x :: st) σ Q ↔ G d 70 62 [l0, ykl l1, some (.int x)] st σ Q := by
  cases l1 with
  | none => exact gs_go f_70_61 rfl
  | some v => cases v <;> exact gs_go f_70_61 rfl
theorem f_70_62 : ft 70 62 = some (129, .iload_n 2, []) := rfl
theorem s_70_62 {d : Nat} {σ : xS} {st : List Value} {Q : xR → xS → Prop} {l0 l1 : Option Value} {x : Int32} : G d 70 62 [l0, l1, some (.int x)] st σ Q ↔ G d 70 63 [l0, l1, some (.int x)] (.int x :: st) σ Q := gs_go f_70_62 rfl
theorem f_70_63 : ft 70 63 = some (130, .ifCond .ge 5, [66]) := rfl
theorem s_70_63 {d : Nat} {σ : xS} {st : List Value} {Q : xR → xS → Prop} {l0 l1 l2 : Option Value} {x : Int32} : G d 70 63 [l0, l1, l2] (.int x :: st) σ Q ↔ if 0 ≤ x then G d 70 66 [l0, l1, l2] st σ Q else G d 70 64 [l0, l1, l2] st σ Q := gs_if f_70_63 rfl
theorem f_70_64 : ft 70 64 = some (133, .iconst 0, []) := rfl
theorem s_70_64 {d : Nat} {σ : xS} {st : List Value} {Q : xR → xS → Prop} {l0 l1 l2 : Option Value} : G d 70 64 [l0, l1, l2] st σ Q ↔ G d 70 65 [l0, l1, l2] (.int (0) :: st) σ Q := gs_go f_70_64 rfl
theorem f_70_65 : ft 70 65 = some (134, .ireturn, []) := rfl
theorem s_70_65 {d : Nat} {σ : xS} {ls : xL} {Q : xR → xS → Prop} {x : Int32} : G d 70 65 ls [.int x] σ Q ↔ ybo x ∧ Q (.inl (some (.int x))) σ := gs_retb f_70_65 rfl
theorem f_70_66 : ft 70 66 = some (135, .aload_n 0, []) := rfl
theorem s_70_66 {d : Nat} {σ : xS} {st : List Value} {Q : xR → xS → Prop} {l1 l2 : Option Value} {x : Nat} : G d 70 66 [some (.ref x), l1, l2] st σ Q ↔ G d 70 67 [some (.ref x), l1, l2] (.ref x :: st) σ Q := gs_go f_70_66 rfl
theorem f_70_67 : ft 70 67 = some (136, .iload_n 2, []) := rfl
theorem s_70_67 {d : Nat} {σ : xS} {st : List Value} {Q : xR → xS → Prop} {l0 l1 : Option Value} {x : Int32} : G d 70 67 [l0, l1, some (.int x)] st σ Q ↔ G d 70 68 [l0, l1, some (.int x)] (.int x :: st) σ Q := gs_go f_70_67 rfl
theorem f_70_68 : ft 70 68 = some (137, .invokevirtual 67, [72, 2, 0, 850]) := rfl
theorem s_70_68 {d : Nat} {t : yT} {st : List Value} {Q : xR → xS → Prop} {l0 l1 l2 : Option Value} {a0 : Nat} {a1 : Int32} (ho : yisO 5 a0) : G (d + 1) 70 68 [l0, l1, l2] (.int a1 :: .ref a0 :: st) (yemb t) Q ↔ xcat st ≤ 8 ∧ Cl d 72 [.ref a0, .int a1] (yemb t) (Gk (d + 1) 70 68 [l0, l1, l2] st Q) := gs_call f_70_68 ((xinv_call (i := 68) (n := 850) (ls := [l0, l1, l2]) (kind := 0) (σ := yemb t) (by decide)).trans (xcall_vi [.int a1, .ref a0] rfl rfl (show (2 : Nat) ≤ 2 by decide) rfl ho))
theorem f_70_69 : ft 70 69 = some (140, .iconst 1, []) := rfl
theorem s_70_69 {d : Nat} {σ : xS} {st : List Value} {Q : xR → xS → Prop} {l0 l1 l2 : Option Value} : G d 70 69 [l0, l1, l2] st σ Q ↔ G d 70 70 [l0, l1, l2] (.int (1) :: st) σ Q := gs_go f_70_69 rfl
theorem f_70_70 : ft 70 70 = some (141, .ireturn, []) := rfl
theorem s_70_70 {d : Nat} {σ : xS} {ls : xL} {Q : xR → xS → Prop} {x : Int32} : G d 70 70 ls [.int x] σ Q ↔ ybo x ∧ Q (.inl (some (.int x))) σ := gs_retb f_70_70 rfl
theorem f_71_0 : ft 71 0 = some (0, .iload_n 1, []) := rfl
theorem s_71_0 {d : Nat} {σ : xS} {st : List Value} {Q : xR → xS → Prop} {l0 : Option Value} {x : Int32} : G d 71 0 [l0, some (.int x)] st σ Q ↔ G d 71 1 [l0, some (.int x)] (.int x :: st) σ Q := gs_go f_71_0 rfl
theorem f_71_1 : ft 71 1 = some (1, .ifCond .eq 8, [5]) := rfl
theorem s_71_1 {d : Nat} {σ : xS} {st : List Value} {Q : xR → xS → Prop} {l0 l1 : Option Value} {x : Int32} : G d 71 1 [l0, l1] (.int x :: st) σ Q ↔ if x = 0 then G d 71 5 [l0, l1] st σ Q else G d 71 2 [l0, l1] st σ Q := gs_if f_71_1 rfl
theorem f_71_2 : ft 71 2 = some (4, .aload_n 0, []) := rfl
theorem s_71_2 {d : Nat} {σ : xS} {st : List Value} {Q : xR → xS → Prop} {l1 : Option Value} {x : Nat} : G d 71 2 [some (.ref x), l1] st σ Q ↔ G d 71 3 [some (.ref x), l1] (.ref x :: st) σ Q := gs_go f_71_2 rfl
theorem f_71_3 : ft 71 3 = some (5, .iload_n 1, []) := rfl
theorem s_71_3 {d : Nat} {σ : xS} {st : List Value} {Q : xR → xS → Prop} {l0 : Option Value} {x : Int32} : G d 71 3 [l0, some (.int x)] st σ Q ↔ G d 71 4 [l0, some (.int x)] (.int x :: st) σ Q := gs_go f_71_3 rfl
theorem f_71_4 : ft 71 4 = some (6, .invokevirtual 67, [72, 2, 0, 850]) := rfl
theorem s_71_4 {d : Nat} {t : yT} {st : List Value} {Q : xR → xS → Prop} {l0 l1 : Option Value} {a0 : Nat} {a1 : Int32} (ho : yisO 5 a0) : G (d + 1) 71 4 [l0, l1] (.int a1 :: .ref a0 :: st) (yemb t) Q ↔ xcat st ≤ 8 ∧ Cl d 72 [.ref a0, .int a1] (yemb t) (Gk (d + 1) 71 4 [l0, l1] st Q) := gs_call f_71_4 ((xinv_call (i := 4) (n := 850) (ls := [l0, l1]) (kind := 0) (σ := yemb t) (by decide)).trans (xcall_vi [.int a1, .ref a0] rfl rfl (show (2 : Nat) ≤ 2 by decide) rfl ho))
theorem f_71_5 : ft 71 5 = some (9, .return_, []) := rfl
theorem s_71_5 {d : Nat} {σ : xS} {ls : xL} {Q : xR → xS → Prop} : G d 71 5 ls [] σ Q ↔ Q (.inl none) σ := gs_ret f_71_5 rfl
theorem f_72_0 : ft 72 0 = some (0, .aload_n 0, []) := rfl
theorem s_72_0 {d : Nat} {σ : xS} {st : List Value} {Q : xR → xS → Prop} {l1 : Option Value} {x : Nat} : G d 72 0 [some (.ref x), l1] st σ Q ↔ G d 72 1 [some (.ref x), l1] (.ref x :: st) σ Q := gs_go f_72_0 rfl
theorem f_72_1 : ft 72 1 = some (1, .getfield 15, [5, 2, 0, 233]) := rfl
theorem s_72_1 {d : Nat} {t : yT} {st : List Value} {Q : xR → xS → Prop} {l0 l1 : Option Value} {a : Nat} (ho : yisO 5 a) : G d 72 1 [l0, l1] (.ref a :: st) (yemb t) Q ↔ G d 72 2 [l0, l1] (.int (t.A a 2) :: st) (yemb t) Q := gs_getf (c := 5) (j := 2) (q := .i) f_72_1 ho rfl
theorem f_72_2 : ft 72 2 = some (4, .sipush 600, []) := rfl
theorem s_72_2 {d : Nat} {σ : xS} {st : List Value} {Q : xR → xS → Prop} {l0 l1 : Option Value} : G d 72 2 [l0, l1] st σ Q ↔ G d 72 3 [l0, l1] (.int (600) :: st) σ Q := gs_go f_72_2 rfl
theorem f_72_3 : ft 72 3 = some (7, .if_icmp .ge 23, [16]) := rfl
theorem s_72_3 {d : Nat} {σ : xS} {st : List Value} {Q : xR → xS → Prop} {l0 l1 : Option Value} {x y : Int32} : G d 72 3 [l0, l1] (.int y :: .int x :: st) σ Q ↔ if y ≤ x then G d 72 16 [l0, l1] st σ Q else G d 72 4 [l0, l1] st σ Q := gs_if f_72_3 rfl
theorem f_72_4 : ft 72 4 = some (10, .aload_n 0, []) := rfl
theorem s_72_4 {d : Nat} {σ : xS} {st : List Value} {Q : xR → xS → Prop} {l1 : Option Value} {x : Nat} : G d 72 4 [some (.ref x), l1] st σ Q ↔ G d 72 5 [some (.ref x), l1] (.ref x :: st) σ Q := gs_go f_72_4 rfl
theorem f_72_5 : ft 72 5 = some (11, .getfield 9, [5, 1, 0, 232]) := rfl
theorem s_72_5 {d : Nat} {t : yT} {st : List Value} {Q : xR → xS → Prop} {l0 l1 : Option Value} {a : Nat} (ho : yisO 5 a) : G d 72 5 [l0, l1] (.ref a :: st) (yemb t) Q ↔ G d 72 6 [l0, l1] (.ref 33 :: st) (yemb t) Q := gs_getf (c := 5) (j := 1) (q := .c 33) f_72_5 ho rfl
theorem f_72_6 : ft 72 6 = some (14, .aload_n 0, []) := rfl
theorem s_72_6 {d : Nat} {σ : xS} {st : List Value} {Q : xR → xS → Prop} {l1 : Option Value} {x : Nat} : G d 72 6 [some (.ref x), l1] st σ Q ↔ G d 72 7 [some (.ref x), l1] (.ref x :: st) σ Q := gs_go f_72_6 rfl
theorem f_72_7 : ft 72 7 = some (15, .getfield 15, [5, 2, 0, 233]) := rfl
theorem s_72_7 {d : Nat} {t : yT} {st : List Value} {Q : xR → xS → Prop} {l0 l1 : Option Value} {a : Nat} (ho : yisO 5 a) : G d 72 7 [l0, l1] (.ref a :: st) (yemb t) Q ↔ G d 72 8 [l0, l1] (.int (t.A a 2) :: st) (yemb t) Q := gs_getf (c := 5) (j := 2) (q := .i) f_72_7 ho rfl
theorem f_72_8 : ft 72 8 = some (18, .iload_n 1, []) := rfl
theorem s_72_8 {d : Nat} {σ : xS} {st : List Value} {Q : xR → xS → Prop} {l0 : Option Value} {x : Int32} : G d 72 8 [l0, some (.int x)] st σ Q ↔ G d 72 9 [l0, some (.int x)] (.int x :: st) σ Q := gs_go f_72_8 rfl
theorem f_72_9 : ft 72 9 = some (19, .iastore, []) := rfl
theorem s_72_9 {d : Nat} {t : yT} {st : List Value} {Q : xR → xS → Prop} {l0 l1 : Option Value} {a : Nat} {x v : Int32} (ha : yA 0 a) : G d 72 9 [l0, l1] (.int v :: .int x :: .ref a :: st) (yemb t) Q ↔ yix x (yn a) ∧ G d 72 10 [l0, l1] st (yemb (t.s1 a x.toNatClampNeg v)) Q := gs_iast f_72_9 ha
theorem f_72_10 : ft 72 10 = some (20, .aload_n 0, []) := rfl
theorem s_72_10 {d : Nat} {σ : xS} {st : List Value} {Q : xR → xS → Prop} {l1 : Option Value} {x : Nat} : G d 72 10 [some (.ref x), l1] st σ Q ↔ G d 72 11 [some (.ref x), l1] (.ref x :: st) σ Q := gs_go f_72_10 rfl
theorem f_72_11 : ft 72 11 = some (21, .dup, []) := rfl
theorem s_72_11 {d : Nat} {σ : xS} {st : List Value} {Q : xR → xS → Prop} {l0 l1 : Option Value} {x : Nat} : G d 72 11 [l0, l1] (.ref x :: st) σ Q ↔ G d 72 12 [l0, l1] (.ref x :: .ref x :: st) σ Q := gs_go f_72_11 rfl
theorem s_72_11i {d : Nat} {σ : xS} {st : List Value} {Q : xR → xS → Prop} {l0 l1 : Option Value} {x : Int32} : G d 72 11 [l0, l1] (.int x :: st) σ Q ↔ G d 72 12 [l0, l1] (.int x :: .int x :: st) σ Q := gs_go f_72_11 rfl
theorem f_72_12 : ft 72 12 = some (22, .getfield 15, [5, 2, 0, 233]) := rfl
theorem s_72_12 {d : Nat} {t : yT} {st : List Value} {Q : xR → xS → Prop} {l0 l1 : Option Value} {a : Nat} (ho : yisO 5 a) : G d 72 12 [l0, l1] (.ref a :: st) (yemb t) Q ↔ G d 72 13 [l0, l1] (.int (t.A a 2) :: st) (yemb t) Q := gs_getf (c := 5) (j := 2) (q := .i) f_72_12 ho rfl
theorem f_72_13 : ft 72 13 = some (25, .iconst 1, []) := rfl
theorem s_72_13 {d : Nat} {σ : xS} {st : List Value} {Q : xR → xS → Prop} {l0 l1 : Option Value} : G d 72 13 [l0, l1] st σ Q ↔ G d 72 14 [l0, l1] (.int (1) :: st) σ Q := gs_go f_72_13 rfl
theorem f_72_14 : ft 72 14 = some (26, .iadd, []) := rfl
theorem s_72_14 {d : Nat} {σ : xS} {st : List Value} {Q : xR → xS → Prop} {l0 l1 : Option Value} {x y : Int32} : G d 72 14 [l0, l1] (.int y :: .int x :: st) σ Q ↔ G d 72 15 [l0, l1] (.int (x + y) :: st) σ Q := gs_go f_72_14 rfl
theorem f_72_15 : ft 72 15 = some (27, .putfield 15, [5, 2, 0, 233]) := rfl
theorem s_72_15 {d : Nat} {t : yT} {st : List Value} {Q : xR → xS → Prop} {l0 l1 : Option Value} {a : Nat} {x : Int32} (ho : yisO 5 a) : G d 72 15 [l0, l1] (.int x :: .ref a :: st) (yemb t) Q ↔ G d 72 16 [l0, l1] st (yemb (t.s1 a 2 x)) Q := gs_putI (c := 5) (j := 2) f_72_15 (fun _ => rfl) rfl rfl ho
theorem f_72_16 : ft 72 16 = some (30, .return_, []) := rfl
theorem s_72_16 {d : Nat} {σ : xS} {ls : xL} {Q : xR → xS → Prop} : G d 72 16 ls [] σ Q ↔ Q (.inl none) σ := gs_ret f_72_16 rfl
theorem f_73_0 : ft 73 0 = some (0, .aload_n 0, []) := rfl
theorem s_73_0 {d : Nat} {σ : xS} {st : List Value} {Q : xR → xS → Prop} {x : Nat} : G d 73 0 [some (.ref x)] st σ Q ↔ G d 73 1 [some (.ref x)] (.ref x :: st) σ Q := gs_go f_73_0 rfl
theorem f_73_1 : ft 73 1 = some (1, .invokespecial 3, [0, 1, 20, 76]) := rfl
theorem f_73_2 : ft 73 2 = some (4, .aload_n 0, []) := rfl
theorem s_73_2 {d : Nat} {σ : xS} {st : List Value} {Q : xR → xS → Prop} {x : Nat} : G d 73 2 [some (.ref x)] st σ Q ↔ G d 73 3 [some (.ref x)] (.ref x :: st) σ Q := gs_go f_73_2 rfl
theorem f_73_3 : ft 73 3 = some (5, .sipush 600, []) := rfl
theorem s_73_3 {d : Nat} {σ : xS} {st : List Value} {Q : xR → xS → Prop} {l0 : Option Value} : G d 73 3 [l0] st σ Q ↔ G d 73 4 [l0] (.int (600) :: st) σ Q := gs_go f_73_3 rfl
theorem f_73_4 : ft 73 4 = some (8, .newarray .byte, [1]) := rfl
theorem f_73_5 : ft 73 5 = some (10, .putfield 9, [6, 0, 0, 77]) := rfl
theorem f_73_6 : ft 73 6 = some (13, .aload_n 0, []) := rfl
theorem s_73_6 {d : Nat} {σ : xS} {st : List Value} {Q : xR → xS → Prop} {x : Nat} : G d 73 6 [some (.ref x)] st σ Q ↔ G d 73 7 [some (.ref x)] (.ref x :: st) σ Q := gs_go f_73_6 rfl
theorem f_73_7 : ft 73 7 = some (14, .iconst 0, []) := rfl
theorem s_73_7 {d : Nat} {σ : xS} {st : List Value} {Q : xR → xS → Prop} {l0 : Option Value} : G d 73 7 [l0] st σ Q ↔ G d 73 8 [l0] (.int (0) :: st) σ Q := gs_go f_73_7 rfl
theorem f_73_8 : ft 73 8 = some (15, .putfield 15, [6, 1, 0, 78]) := rfl
theorem s_73_8 {d : Nat} {t : yT} {st : List Value} {Q : xR → xS → Prop} {l0 : Option Value} {a : Nat} {x : Int32} (ho : yisO 6 a) : G d 73 8 [l0] (.int x :: .ref a :: st) (yemb t) Q ↔ G d 73 9 [l0] st (yemb (t.s1 a 1 x)) Q := gs_putI (c := 6) (j := 1) f_73_8 (fun _ => rfl) rfl rfl ho
theorem f_73_9 : ft 73 9 = some (18, .aload_n 0, []) := rfl
theorem s_73_9 {d : Nat} {σ : xS} {st : List Value} {Q : xR → xS → Prop} {x : Nat} : G d 73 9 [some (.ref x)] st σ Q ↔ G d 73 10 [some (.ref x)] (.ref x :: st) σ Q := gs_go f_73_9 rfl
theorem f_73_10 : ft 73 10 = some (19, .iconst 0, []) := rfl
theorem s_73_10 {d : Nat} {σ : xS} {st : List Value} {Q : xR → xS → Prop} {l0 : Option Value} : G d 73 10 [l0] st σ Q ↔ G d 73 11 [l0] (.int (0) :: st) σ Q := gs_go f_73_10 rfl
theorem f_73_11 : ft 73 11 = some (20, .putfield 19, [6, 2, 0, 79]) := rfl
theorem s_73_11 {d : Nat} {t : yT} {st : List Value} {Q : xR → xS → Prop} {l0 : Option Value} {a : Nat} {x : Int32} (ho : yisO 6 a) : G d 73 11 [l0] (.int x :: .ref a :: st) (yemb t) Q ↔ G d 73 12 [l0] st (yemb (t.s1 a 2 x)) Q := gs_putI (c := 6) (j := 2) f_73_11 (fun _ => rfl) rfl rfl ho
theorem f_73_12 : ft 73 12 = some (23, .aload_n 0, []) := rfl
theorem s_73_12 {d : Nat} {σ : xS} {st : List Value} {Q : xR → xS → Prop} {x : Nat} : G d 73 12 [some (.ref x)] st σ Q ↔ G d 73 13 [some (.ref x)] (.ref x :: st) σ Q := gs_go f_73_12 rfl
theorem f_73_13 : ft 73 13 = some (24, .iconst 0, []) := rfl
theorem s_73_13 {d : Nat} {σ : xS} {st : List Value} {Q : xR → xS → Prop} {l0 : Option Value} : G d 73 13 [l0] st σ Q ↔ G d 73 14 [l0] (.int (0) :: st) σ Q := gs_go f_73_13 rfl
theorem f_73_14 : ft 73 14 = some (25, .putfield 22, [6, 3, 0, 80]) := rfl
theorem s_73_14 {d : Nat} {t : yT} {st : List Value} {Q : xR → xS → Prop} {l0 : Option Value} {a : Nat} {x : Int32} (ho : yisO 6 a) : G d 73 14 [l0] (.int x :: .ref a :: st) (yemb t) Q ↔ G d 73 15 [l0] st (yemb (t.s1 a 3 x)) Q := gs_putI (c := 6) (j := 3) f_73_14 (fun _ => rfl) rfl rfl ho
theorem f_73_15 : ft 73 15 = some (28, .aload_n 0, []) := rfl
theorem s_73_15 {d : Nat} {σ : xS} {st : List Value} {Q : xR → xS → Prop} {x : Nat} : G d 73 15 [some (.ref x)] st σ Q ↔ G d 73 16 [some (.ref x)] (.ref x :: st) σ Q := gs_go f_73_15 rfl
theorem f_73_16 : ft 73 16 = some (29, .iconst 0, []) := rfl
theorem s_73_16 {d : Nat} {σ : xS} {st : List Value} {Q : xR → xS → Prop} {l0 : Option Value} : G d 73 16 [l0] st σ Q ↔ G d 73 17 [l0] (.int (0) :: st) σ Q := gs_go f_73_16 rfl
theorem f_73_17 : ft 73 17 = some (30, .putfield 25, [6, 4, 0, 81]) := rfl
theorem s_73_17 {d : Nat} {t : yT} {st : List Value} {Q : xR → xS → Prop} {l0 : Option Value} {a : Nat} {x : Int32} (ho : yisO 6 a) : G d 73 17 [l0] (.int x :: .ref a :: st) (yemb t) Q ↔ G d 73 18 [l0] st (yemb (t.s1 a 4 x)) Q := gs_putI (c := 6) (j := 4) f_73_17 (fun _ => rfl) rfl rfl ho
theorem f_73_18 : ft 73 18 = some (33, .aload_n 0, []) := rfl
theorem s_73_18 {d : Nat} {σ : xS} {st : List Value} {Q : xR → xS → Prop} {x : Nat} : G d 73 18 [some (.ref x)] st σ Q ↔ G d 73 19 [some (.ref x)] (.ref x :: st) σ Q := gs_go f_73_18 rfl
theorem f_73_19 : ft 73 19 = some (34, .iconst 0, []) := rfl
theorem s_73_19 {d : Nat} {σ : xS} {st : List Value} {Q : xR → xS → Prop} {l0 : Option Value} : G d 73 19 [l0] st σ Q ↔ G d 73 20 [l0] (.int (0) :: st) σ Q := gs_go f_73_19 rfl
theorem f_73_20 : ft 73 20 = some (35, .putfield 28, [6, 5, 0, 82]) := rfl
theorem s_73_20 {d : Nat} {t : yT} {st : List Value} {Q : xR → xS → Prop} {l0 : Option Value} {a : Nat} {x : Int32} (ho : yisO 6 a) : G d 73 20 [l0] (.int x :: .ref a :: st) (yemb t) Q ↔ G d 73 21 [l0] st (yemb (t.s1 a 5 x)) Q := gs_putI (c := 6) (j := 5) f_73_20 (fun _ => rfl) rfl rfl ho
theorem f_73_21 : ft 73 21 = some (38, .aload_n 0, []) := rfl
theorem s_73_21 {d : Nat} {σ : xS} {st : List Value} {Q : xR → xS → Prop} {x : Nat} : G d 73 21 [some (.ref x)] st σ Q ↔ G d 73 22 [some (.ref x)] (.ref x :: st) σ Q := gs_go f_73_21 rfl
theorem f_73_22 : ft 73 22 = some (39, .iconst 0, []) := rfl
theorem s_73_22 {d : Nat} {σ : xS} {st : List Value} {Q : xR → xS → Prop} {l0 : Option Value} : G d 73 22 [l0] st σ Q ↔ G d 73 23 [l0] (.int (0) :: st) σ Q := gs_go f_73_22 rfl
theorem f_73_23 : ft 73 23 = some (40, .putfield 31, [6, 6, 0, 83]) := rfl
theorem s_73_23 {d : Nat} {t : yT} {st : List Value} {Q : xR → xS → Prop} {l0 : Option Value} {a : Nat} {x : Int32} (ho : yisO 6 a) : G d 73 23 [l0] (.int x :: .ref a :: st) (yemb t) Q ↔ G d 73 24 [l0] st (yemb (t.s1 a 6 x)) Q := gs_putI (c := 6) (j := 6) f_73_23 (fun _ => rfl) rfl rfl ho
theorem f_73_24 : ft 73 24 = some (43, .aload_n 0, []) := rfl
theorem s_73_24 {d : Nat} {σ : xS} {st : List Value} {Q : xR → xS → Prop} {x : Nat} : G d 73 24 [some (.ref x)] st σ Q ↔ G d 73 25 [some (.ref x)] (.ref x :: st) σ Q := gs_go f_73_24 rfl
theorem f_73_25 : ft 73 25 = some (44, .iconst 0, []) := rfl
theorem s_73_25 {d : Nat} {σ : xS} {st : List Value} {Q : xR → xS → Prop} {l0 : Option Value} : G d 73 25 [l0] st σ Q ↔ G d 73 26 [l0] (.int (0) :: st) σ Q := gs_go f_73_25 rfl
theorem f_73_26 : ft 73 26 = some (45, .putfield 34, [6, 7, 0, 84]) := rfl
theorem s_73_26 {d : Nat} {t : yT} {st : List Value} {Q : xR → xS → Prop} {l0 : Option Value} {a : Nat} {x : Int32} (ho : yisO 6 a) : G d 73 26 [l0] (.int x :: .ref a :: st) (yemb t) Q ↔ G d 73 27 [l0] st (yemb (t.s1 a 7 x)) Q := gs_putI (c := 6) (j := 7) f_73_26 (fun _ => rfl) rfl rfl ho
theorem f_73_27 : ft 73 27 = some (48, .aload_n 0, []) := rfl
theorem s_73_27 {d : Nat} {σ : xS} {st : List Value} {Q : xR → xS → Prop} {x : Nat} : G d 73 27 [some (.ref x)] st σ Q ↔ G d 73 28 [some (.ref x)] (.ref x :: st) σ Q := gs_go f_73_27 rfl
theorem f_73_28 : ft 73 28 = some (49, .iconst 0, []) := rfl
theorem s_73_28 {d : Nat} {σ : xS} {st : List Value} {Q : xR → xS → Prop} {l0 : Option Value} : G d 73 28 [l0] st σ Q ↔ G d 73 29 [l0] (.int (0) :: st) σ Q := gs_go f_73_28 rfl
theorem f_73_29 : ft 73 29 = some (50, .putfield 37, [6, 8, 0, 85]) := rfl
theorem s_73_29 {d : Nat} {t : yT} {st : List Value} {Q : xR → xS → Prop} {l0 : Option Value} {a : Nat} {x : Int32} (ho : yisO 6 a) : G d 73 29 [l0] (.int x :: .ref a :: st) (yemb t) Q ↔ G d 73 30 [l0] st (yemb (t.s1 a 8 x)) Q := gs_putI (c := 6) (j := 8) f_73_29 (fun _ => rfl) rfl rfl ho
theorem f_73_30 : ft 73 30 = some (53, .aload_n 0, []) := rfl
theorem s_73_30 {d : Nat} {σ : xS} {st : List Value} {Q : xR → xS → Prop} {x : Nat} : G d 73 30 [some (.ref x)] st σ Q ↔ G d 73 31 [some (.ref x)] (.ref x :: st) σ Q := gs_go f_73_30 rfl
theorem f_73_31 : ft 73 31 = some (54, .iconst (-1), []) := rfl
theorem s_73_31 {d : Nat} {σ : xS} {st : List Value} {Q : xR → xS → Prop} {l0 : Option Value} : G d 73 31 [l0] st σ Q ↔ G d 73 32 [l0] (.int (-1) :: st) σ Q := gs_go f_73_31 rfl
theorem f_73_32 : ft 73 32 = some (55, .putfield 40, [6, 9, 0, 86]) := rfl
theorem s_73_32 {d : Nat} {t : yT} {st : List Value} {Q : xR → xS → Prop} {l0 : Option Value} {a : Nat} {x : Int32} (ho : yisO 6 a) : G d 73 32 [l0] (.int x :: .ref a :: st) (yemb t) Q ↔ G d 73 33 [l0] st (yemb (t.s1 a 9 x)) Q := gs_putI (c := 6) (j := 9) f_73_32 (fun _ => rfl) rfl rfl ho
theorem f_73_33 : ft 73 33 = some (58, .return_, []) := rfl
theorem s_73_33 {d : Nat} {σ : xS} {ls : xL} {Q : xR → xS → Prop} : G d 73 33 ls [] σ Q ↔ Q (.inl none) σ := gs_ret f_73_33 rfl
theorem f_74_0 : ft 74 0 = some (0, .aload_n 0, []) := rfl
theorem s_74_0 {d : Nat} {σ : xS} {st : List Value} {Q : xR → xS → Prop} {x : Nat} : G d 74 0 [some (.ref x)] st σ Q ↔ G d 74 1 [some (.ref x)] (.ref x :: st) σ Q := gs_go f_74_0 rfl
theorem f_74_1 : ft 74 1 = some (1, .getfield 15, [6, 1, 0, 78]) := rfl
theorem s_74_1 {d : Nat} {t : yT} {st : List Value} {Q : xR → xS → Prop} {l0 : Option Value} {a : Nat} (ho : yisO 6 a) : G d 74 1 [l0] (.ref a :: st) (yemb t) Q ↔ G d 74 2 [l0] (.int (t.A a 1) :: st) (yemb t) Q := gs_getf (c := 6) (j := 1) (q := .i) f_74_1 ho rfl
theorem f_74_2 : ft 74 2 = some (4, .ireturn, []) := rfl
theorem s_74_2 {d : Nat} {σ : xS} {ls : xL} {Q : xR → xS → Prop} {x : Int32} : G d 74 2 ls [.int x] σ Q ↔ Q (.inl (some (.int x))) σ := gs_reti f_74_2 rfl
theorem f_75_0 : ft 75 0 = some (0, .aload_n 0, []) := rfl
theorem s_75_0 {d : Nat} {σ : xS} {st : List Value} {Q : xR → xS → Prop} {x : Nat} : G d 75 0 [some (.ref x)] st σ Q ↔ G d 75 1 [some (.ref x)] (.ref x :: st) σ Q := gs_go f_75_0 rfl
theorem f_75_1 : ft 75 1 = some (1, .getfield 37, [6, 8, 0, 85]) := rfl
theorem s_75_1 {d : Nat} {t : yT} {st : List Value} {Q : xR → xS → Prop} {l0 : Option Value} {a : Nat} (ho : yisO 6 a) : G d 75 1 [l0] (.ref a :: st) (yemb t) Q ↔ G d 75 2 [l0] (.int (t.A a 8) :: st) (yemb t) Q := gs_getf (c := 6) (j := 8) (q := .i) f_75_1 ho rfl
theorem f_75_2 : ft 75 2 = some (4, .ireturn, []) := rfl
theorem s_75_2 {d : Nat} {σ : xS} {ls : xL} {Q : xR → xS → Prop} {x : Int32} : G d 75 2 ls [.int x] σ Q ↔ Q (.inl (some (.int x))) σ := gs_reti f_75_2 rfl
theorem f_76_0 : ft 76 0 = some (0, .aload_n 0, []) := rfl
theorem s_76_0 {d : Nat} {σ : xS} {st : List Value} {Q : xR → xS → Prop} {x : Nat} : G d 76 0 [some (.ref x)] st σ Q ↔ G d 76 1 [some (.ref x)] (.ref x :: st) σ Q := gs_go f_76_0 rfl
theorem f_76_1 : ft 76 1 = some (1, .getfield 40, [6, 9, 0, 86]) := rfl
theorem s_76_1 {d : Nat} {t : yT} {st : List Value} {Q : xR → xS → Prop} {l0 : Option Value} {a : Nat} (ho : yisO 6 a) : G d 76 1 [l0] (.ref a :: st) (yemb t) Q ↔ G d 76 2 [l0] (.int (t.A a 9) :: st) (yemb t) Q := gs_getf (c := 6) (j := 9) (q := .i) f_76_1 ho rfl
theorem f_76_2 : ft 76 2 = some (4, .ireturn, []) := rfl
theorem s_76_2 {d : Nat} {σ : xS} {ls : xL} {Q : xR → xS → Prop} {x : Int32} : G d 76 2 ls [.int x] σ Q ↔ Q (.inl (some (.int x))) σ := gs_reti f_76_2 rfl
theorem f_77_0 : ft 77 0 = some (0, .bipush 24, []) := rfl
theorem s_77_0 {d : Nat} {σ : xS} {st : List Value} {Q : xR → xS → Prop} {l0 l1 l2 : Option Value} : G d 77 0 [l0, l1, l2] st σ Q ↔ G d 77 1 [l0, l1, l2] (.int (24) :: st) σ Q := gs_go f_77_0 rfl
theorem f_77_1 : ft 77 1 = some (2, .istore_n 2, []) := rfl
theorem s_77_1 {d : Nat} {σ : xS} {st : List Value} {Q : xR → xS → Prop} {l0 l1 l2 : Option Value} {x : Int32} : G d 77 1 [l0, l1, l2] (.int x :: st) σ Q ↔ G d 77 2 [l0, ykl l1, some (.int x)] st σ Q := by
  cases l1 with
  | none => exact gs_go f_77_1 rfl
  | some v => cases v <;> exact gs_go f_77_1 rfl
theorem f_77_2 : ft 77 2 = some (3, .iload_n 2, []) := rfl
theorem s_77_2 {d : Nat} {σ : xS} {st : List Value} {Q : xR → xS → Prop} {l0 l1 : Option Value} {x : Int32} : G d 77 2 [l0, l1, some (.int x)] st σ Q ↔ G d 77 3 [l0, l1, some (.int x)] (.int x :: st) σ Q := gs_go f_77_2 rfl
theorem f_77_3 : ft 77 3 = some (4, .ifCond .lt 42, [25]) := rfl
theorem s_77_3 {d : Nat} {σ : xS} {st : List Value} {Q : xR → xS → Prop} {l0 l1 l2 : Option Value} {x : Int32} : G d 77 3 [l0, l1, l2] (.int x :: st) σ Q ↔ if x < 0 then G d 77 25 [l0, l1, l2] st σ Q else G d 77 4 [l0, l1, l2] st σ Q := gs_if f_77_3 rfl
theorem f_77_4 : ft 77 4 = some (7, .aload_n 0, []) := rfl
theorem s_77_4 {d : Nat} {σ : xS} {st : List Value} {Q : xR → xS → Prop} {l1 l2 : Option Value} {x : Nat} : G d 77 4 [some (.ref x), l1, l2] st σ Q ↔ G d 77 5 [some (.ref x), l1, l2] (.ref x :: st) σ Q := gs_go f_77_4 rfl
theorem f_77_5 : ft 77 5 = some (8, .getfield 15, [6, 1, 0, 78]) := rfl
theorem s_77_5 {d : Nat} {t : yT} {st : List Value} {Q : xR → xS → Prop} {l0 l1 l2 : Option Value} {a : Nat} (ho : yisO 6 a) : G d 77 5 [l0, l1, l2] (.ref a :: st) (yemb t) Q ↔ G d 77 6 [l0, l1, l2] (.int (t.A a 1) :: st) (yemb t) Q := gs_getf (c := 6) (j := 1) (q := .i) f_77_5 ho rfl
theorem f_77_6 : ft 77 6 = some (11, .sipush 600, []) := rfl
theorem s_77_6 {d : Nat} {σ : xS} {st : List Value} {Q : xR → xS → Prop} {l0 l1 l2 : Option Value} : G d 77 6 [l0, l1, l2] st σ Q ↔ G d 77 7 [l0, l1, l2] (.int (600) :: st) σ Q := gs_go f_77_6 rfl
theorem f_77_7 : ft 77 7 = some (14, .if_icmp .ge 26, [23]) := rfl
theorem s_77_7 {d : Nat} {σ : xS} {st : List Value} {Q : xR → xS → Prop} {l0 l1 l2 : Option Value} {x y : Int32} : G d 77 7 [l0, l1, l2] (.int y :: .int x :: st) σ Q ↔ if y ≤ x then G d 77 23 [l0, l1, l2] st σ Q else G d 77 8 [l0, l1, l2] st σ Q := gs_if f_77_7 rfl
theorem f_77_8 : ft 77 8 = some (17, .aload_n 0, []) := rfl
theorem s_77_8 {d : Nat} {σ : xS} {st : List Value} {Q : xR → xS → Prop} {l1 l2 : Option Value} {x : Nat} : G d 77 8 [some (.ref x), l1, l2] st σ Q ↔ G d 77 9 [some (.ref x), l1, l2] (.ref x :: st) σ Q := gs_go f_77_8 rfl
theorem f_77_9 : ft 77 9 = some (18, .getfield 9, [6, 0, 0, 77]) := rfl
theorem s_77_9 {d : Nat} {t : yT} {st : List Value} {Q : xR → xS → Prop} {l0 l1 l2 : Option Value} {a : Nat} (ho : yisO 6 a) : G d 77 9 [l0, l1, l2] (.ref a :: st) (yemb t) Q ↔ G d 77 10 [l0, l1, l2] (.ref 2 :: st) (yemb t) Q := gs_getf (c := 6) (j := 0) (q := .c 2) f_77_9 ho rfl
theorem f_77_10 : ft 77 10 = some (21, .aload_n 0, []) := rfl
theorem s_77_10 {d : Nat} {σ : xS} {st : List Value} {Q : xR → xS → Prop} {l1 l2 : Option Value} {x : Nat} : G d 77 10 [some (.ref x), l1, l2] st σ Q ↔ G d 77 11 [some (.ref x), l1, l2] (.ref x :: st) σ Q := gs_go f_77_10 rfl
theorem f_77_11 : ft 77 11 = some (22, .getfield 15, [6, 1, 0, 78]) := rfl
theorem s_77_11 {d : Nat} {t : yT} {st : List Value} {Q : xR → xS → Prop} {l0 l1 l2 : Option Value} {a : Nat} (ho : yisO 6 a) : G d 77 11 [l0, l1, l2] (.ref a :: st) (yemb t) Q ↔ G d 77 12 [l0, l1, l2] (.int (t.A a 1) :: st) (yemb t) Q := gs_getf (c := 6) (j := 1) (q := .i) f_77_11 ho rfl
theorem f_77_12 : ft 77 12 = some (25, .iload_n 1, []) := rfl
theorem s_77_12 {d : Nat} {σ : xS} {st : List Value} {Q : xR → xS → Prop} {l0 l2 : Option Value} {x : Int32} : G d 77 12 [l0, some (.int x), l2] st σ Q ↔ G d 77 13 [l0, some (.int x), l2] (.int x :: st) σ Q := gs_go f_77_12 rfl
theorem f_77_13 : ft 77 13 = some (26, .iload_n 2, []) := rfl
theorem s_77_13 {d : Nat} {σ : xS} {st : List Value} {Q : xR → xS → Prop} {l0 l1 : Option Value} {x : Int32} : G d 77 13 [l0, l1, some (.int x)] st σ Q ↔ G d 77 14 [l0, l1, some (.int x)] (.int x :: st) σ Q := gs_go f_77_13 rfl
theorem f_77_14 : ft 77 14 = some (27, .ishr, []) := rfl
theorem s_77_14 {d : Nat} {σ : xS} {st : List Value} {Q : xR → xS → Prop} {l0 l1 l2 : Option Value} {x y : Int32} : G d 77 14 [l0, l1, l2] (.int y :: .int x :: st) σ Q ↔ G d 77 15 [l0, l1, l2] (.int (x >>> (y &&& 31)) :: st) σ Q := gs_go f_77_14 rfl
theorem f_77_15 : ft 77 15 = some (28, .i2b, []) := rfl
theorem s_77_15 {d : Nat} {σ : xS} {st : List Value} {Q : xR → xS → Prop} {l0 l1 l2 : Option Value} {x : Int32} : G d 77 15 [l0, l1, l2] (.int x :: st) σ Q ↔ G d 77 16 [l0, l1, l2] (.int x.toInt8.toInt32 :: st) σ Q := gs_go f_77_15 rfl
theorem f_77_16 : ft 77 16 = some (29, .bastore, []) := rfl
theorem s_77_16 {d : Nat} {t : yT} {st : List Value} {Q : xR → xS → Prop} {l0 l1 l2 : Option Value} {a : Nat} {x v : Int32} (ha : yA 1 a) : G d 77 16 [l0, l1, l2] (.int v :: .int x :: .ref a :: st) (yemb t) Q ↔ yix x (yn a) ∧ G d 77 17 [l0, l1, l2] st (yemb (t.s1 a x.toNatClampNeg (vp_nar .byte v))) Q := gs_bast1 f_77_16 ha
theorem f_77_17 : ft 77 17 = some (30, .aload_n 0, []) := rfl
theorem s_77_17 {d : Nat} {σ : xS} {st : List Value} {Q : xR → xS → Prop} {l1 l2 : Option Value} {x : Nat} : G d 77 17 [some (.ref x), l1, l2] st σ Q ↔ G d 77 18 [some (.ref x), l1, l2] (.ref x :: st) σ Q := gs_go f_77_17 rfl
theorem f_77_18 : ft 77 18 = some (31, .dup, []) := rfl
theorem s_77_18 {d : Nat} {σ : xS} {st : List Value} {Q : xR → xS → Prop} {l0 l1 l2 : Option Value} {x : Nat} : G d 77 18 [l0, l1, l2] (.ref x :: st) σ Q ↔ G d 77 19 [l0, l1, l2] (.ref x :: .ref x :: st) σ Q := gs_go f_77_18 rfl
theorem s_77_18i {d : Nat} {σ : xS} {st : List Value} {Q : xR → xS → Prop} {l0 l1 l2 : Option Value} {x : Int32} : G d 77 18 [l0, l1, l2] (.int x :: st) σ Q ↔ G d 77 19 [l0, l1, l2] (.int x :: .int x :: st) σ Q := gs_go f_77_18 rfl
theorem f_77_19 : ft 77 19 = some (32, .getfield 15, [6, 1, 0, 78]) := rfl
theorem s_77_19 {d : Nat} {t : yT} {st : List Value} {Q : xR → xS → Prop} {l0 l1 l2 : Option Value} {a : Nat} (ho : yisO 6 a) : G d 77 19 [l0, l1, l2] (.ref a :: st) (yemb t) Q ↔ G d 77 20 [l0, l1, l2] (.int (t.A a 1) :: st) (yemb t) Q := gs_getf (c := 6) (j := 1) (q := .i) f_77_19 ho rfl
theorem f_77_20 : ft 77 20 = some (35, .iconst 1, []) := rfl
theorem s_77_20 {d : Nat} {σ : xS} {st : List Value} {Q : xR → xS → Prop} {l0 l1 l2 : Option Value} : G d 77 20 [l0, l1, l2] st σ Q ↔ G d 77 21 [l0, l1, l2] (.int (1) :: st) σ Q := gs_go f_77_20 rfl
theorem f_77_21 : ft 77 21 = some (36, .iadd, []) := rfl
theorem s_77_21 {d : Nat} {σ : xS} {st : List Value} {Q : xR → xS → Prop} {l0 l1 l2 : Option Value} {x y : Int32} : G d 77 21 [l0, l1, l2] (.int y :: .int x :: st) σ Q ↔ G d 77 22 [l0, l1, l2] (.int (x + y) :: st) σ Q := gs_go f_77_21 rfl
theorem f_77_22 : ft 77 22 = some (37, .putfield 15, [6, 1, 0, 78]) := rfl
theorem s_77_22 {d : Nat} {t : yT} {st : List Value} {Q : xR → xS → Prop} {l0 l1 l2 : Option Value} {a : Nat} {x : Int32} (ho : yisO 6 a) : G d 77 22 [l0, l1, l2] (.int x :: .ref a :: st) (yemb t) Q ↔ G d 77 23 [l0, l1, l2] st (yemb (t.s1 a 1 x)) Q := gs_putI (c := 6) (j := 1) f_77_22 (fun _ => rfl) rfl rfl ho
theorem f_77_23 : ft 77 23 = some (40, .iinc 2 (-8), []) := rfl
theorem s_77_23 {d : Nat} {σ : xS} {st : List Value} {Q : xR → xS → Prop} {l0 l1 : Option Value} {x : Int32} : G d 77 23 [l0, l1, some (.int x)] st σ Q ↔ G d 77 24 [l0, ykl l1, some (.int (x + (-8)))] st σ Q := by
  cases l1 with
  | none => exact gs_go f_77_23 rfl
  | some v => cases v <;> exact gs_go f_77_23 rfl
theorem f_77_24 : ft 77 24 = some (43, .goto (-40), [2]) := rfl
theorem s_77_24 {d : Nat} {σ : xS} {st : List Value} {Q : xR → xS → Prop} {l0 l1 l2 : Option Value} : G d 77 24 [l0, l1, l2] st σ Q ↔ G d 77 2 [l0, l1, l2] st σ Q := gs_go f_77_24 rfl
theorem f_77_25 : ft 77 25 = some (46, .return_, []) := rfl
theorem s_77_25 {d : Nat} {σ : xS} {ls : xL} {Q : xR → xS → Prop} : G d 77 25 ls [] σ Q ↔ Q (.inl none) σ := gs_ret f_77_25 rfl
theorem f_78_0 : ft 78 0 = some (0, .aload_n 0, []) := rfl
theorem s_78_0 {d : Nat} {σ : xS} {st : List Value} {Q : xR → xS → Prop} {x : Nat} : G d 78 0 [some (.ref x)] st σ Q ↔ G d 78 1 [some (.ref x)] (.ref x :: st) σ Q := gs_go f_78_0 rfl
theorem f_78_1 : ft 78 1 = some (1, .iconst 0, []) := rfl
theorem s_78_1 {d : Nat} {σ : xS} {st : List Value} {Q : xR → xS → Prop} {l0 : Option Value} : G d 78 1 [l0] st σ Q ↔ G d 78 2 [l0] (.int (0) :: st) σ Q := gs_go f_78_1 rfl
theorem f_78_2 : ft 78 2 = some (2, .putfield 15, [6, 1, 0, 78]) := rfl
theorem s_78_2 {d : Nat} {t : yT} {st : List Value} {Q : xR → xS → Prop} {l0 : Option Value} {a : Nat} {x : Int32} (ho : yisO 6 a) : G d 78 2 [l0] (.int x :: .ref a :: st) (yemb t) Q ↔ G d 78 3 [l0] st (yemb (t.s1 a 1 x)) Q := gs_putI (c := 6) (j := 1) f_78_2 (fun _ => rfl) rfl rfl ho
theorem f_78_3 : ft 78 3 = some (5, .return_, []) := rfl
theorem s_78_3 {d : Nat} {σ : xS} {ls : xL} {Q : xR → xS → Prop} : G d 78 3 ls [] σ Q ↔ Q (.inl none) σ := gs_ret f_78_3 rfl
theorem f_79_0 : ft 79 0 = some (0, .aload_n 0, []) := rfl
theorem s_79_0 {d : Nat} {σ : xS} {st : List Value} {Q : xR → xS → Prop} {l1 : Option Value} {x : Nat} : G d 79 0 [some (.ref x), l1] st σ Q ↔ G d 79 1 [some (.ref x), l1] (.ref x :: st) σ Q := gs_go f_79_0 rfl
theorem f_79_1 : ft 79 1 = some (1, .iconst 0, []) := rfl
theorem s_79_1 {d : Nat} {σ : xS} {st : List Value} {Q : xR → xS → Prop} {l0 l1 : Option Value} : G d 79 1 [l0, l1] st σ Q ↔ G d 79 2 [l0, l1] (.int (0) :: st) σ Q := gs_go f_79_1 rfl
theorem f_79_2 : ft 79 2 = some (2, .aload_n 0, []) := rfl
theorem s_79_2 {d : Nat} {σ : xS} {st : List Value} {Q : xR → xS → Prop} {l1 : Option Value} {x : Nat} : G d 79 2 [some (.ref x), l1] st σ Q ↔ G d 79 3 [some (.ref x), l1] (.ref x :: st) σ Q := gs_go f_79_2 rfl
theorem f_79_3 : ft 79 3 = some (3, .getfield 15, [6, 1, 0, 78]) := rfl
theorem s_79_3 {d : Nat} {t : yT} {st : List Value} {Q : xR → xS → Prop} {l0 l1 : Option Value} {a : Nat} (ho : yisO 6 a) : G d 79 3 [l0, l1] (.ref a :: st) (yemb t) Q ↔ G d 79 4 [l0, l1] (.int (t.A a 1) :: st) (yemb t) Q := gs_getf (c := 6) (j := 1) (q := .i) f_79_3 ho rfl
theorem f_79_4 : ft 79 4 = some (6, .iload_n 1, []) := rfl
theorem s_79_4 {d : Nat} {σ : xS} {st : List Value} {Q : xR → xS → Prop} {l0 : Option Value} {x : Int32} : G d 79 4 [l0, some (.int x)] st σ Q ↔ G d 79 5 [l0, some (.int x)] (.int x :: st) σ Q := gs_go f_79_4 rfl
theorem f_79_5 : ft 79 5 = some (7, .invokestatic 43, [0, 2, 25, 663]) := rfl
theorem s_79_5 {d : Nat} {σ : xS} {st : List Value} {Q : xR → xS → Prop} {l0 l1 : Option Value} {x y : Int32} (h : xcat st ≤ 8) : G d 79 5 [l0, l1] (.int y :: .int x :: st) σ Q ↔ G d 79 6 [l0, l1] (.int (if y < x then y else x) :: st) σ Q := gs_go f_79_5 (if_pos h)
theorem f_79_6 : ft 79 6 = some (10, .invokestatic 49, [0, 2, 24, 666]) := rfl
theorem s_79_6 {d : Nat} {σ : xS} {st : List Value} {Q : xR → xS → Prop} {l0 l1 : Option Value} {x y : Int32} (h : xcat st ≤ 8) : G d 79 6 [l0, l1] (.int y :: .int x :: st) σ Q ↔ G d 79 7 [l0, l1] (.int (if x < y then y else x) :: st) σ Q := gs_go f_79_6 (if_pos h)
theorem f_79_7 : ft 79 7 = some (13, .putfield 19, [6, 2, 0, 79]) := rfl
theorem s_79_7 {d : Nat} {t : yT} {st : List Value} {Q : xR → xS → Prop} {l0 l1 : Option Value} {a : Nat} {x : Int32} (ho : yisO 6 a) : G d 79 7 [l0, l1] (.int x :: .ref a :: st) (yemb t) Q ↔ G d 79 8 [l0, l1] st (yemb (t.s1 a 2 x)) Q := gs_putI (c := 6) (j := 2) f_79_7 (fun _ => rfl) rfl rfl ho
theorem f_79_8 : ft 79 8 = some (16, .aload_n 0, []) := rfl
theorem s_79_8 {d : Nat} {σ : xS} {st : List Value} {Q : xR → xS → Prop} {l1 : Option Value} {x : Nat} : G d 79 8 [some (.ref x), l1] st σ Q ↔ G d 79 9 [some (.ref x), l1] (.ref x :: st) σ Q := gs_go f_79_8 rfl
theorem f_79_9 : ft 79 9 = some (17, .iconst 0, []) := rfl
theorem s_79_9 {d : Nat} {σ : xS} {st : List Value} {Q : xR → xS → Prop} {l0 l1 : Option Value} : G d 79 9 [l0, l1] st σ Q ↔ G d 79 10 [l0, l1] (.int (0) :: st) σ Q := gs_go f_79_9 rfl
theorem f_79_10 : ft 79 10 = some (18, .putfield 28, [6, 5, 0, 82]) := rfl
theorem s_79_10 {d : Nat} {t : yT} {st : List Value} {Q : xR → xS → Prop} {l0 l1 : Option Value} {a : Nat} {x : Int32} (ho : yisO 6 a) : G d 79 10 [l0, l1] (.int x :: .ref a :: st) (yemb t) Q ↔ G d 79 11 [l0, l1] st (yemb (t.s1 a 5 x)) Q := gs_putI (c := 6) (j := 5) f_79_10 (fun _ => rfl) rfl rfl ho
theorem f_79_11 : ft 79 11 = some (21, .aload_n 0, []) := rfl
theorem s_79_11 {d : Nat} {σ : xS} {st : List Value} {Q : xR → xS → Prop} {l1 : Option Value} {x : Nat} : G d 79 11 [some (.ref x), l1] st σ Q ↔ G d 79 12 [some (.ref x), l1] (.ref x :: st) σ Q := gs_go f_79_11 rfl
theorem f_79_12 : ft 79 12 = some (22, .iconst 0, []) := rfl
theorem s_79_12 {d : Nat} {σ : xS} {st : List Value} {Q : xR → xS → Prop} {l0 l1 : Option Value} : G d 79 12 [l0, l1] st σ Q ↔ G d 79 13 [l0, l1] (.int (0) :: st) σ Q := gs_go f_79_12 rfl
theorem f_79_13 : ft 79 13 = some (23, .putfield 37, [6, 8, 0, 85]) := rfl
theorem s_79_13 {d : Nat} {t : yT} {st : List Value} {Q : xR → xS → Prop} {l0 l1 : Option Value} {a : Nat} {x : Int32} (ho : yisO 6 a) : G d 79 13 [l0, l1] (.int x :: .ref a :: st) (yemb t) Q ↔ G d 79 14 [l0, l1] st (yemb (t.s1 a 8 x)) Q := gs_putI (c := 6) (j := 8) f_79_13 (fun _ => rfl) rfl rfl ho
theorem f_79_14 : ft 79 14 = some (26, .aload_n 0, []) := rfl
theorem s_79_14 {d : Nat} {σ : xS} {st : List Value} {Q : xR → xS → Prop} {l1 : Option Value} {x : Nat} : G d 79 14 [some (.ref x), l1] st σ Q ↔ G d 79 15 [some (.ref x), l1] (.ref x :: st) σ Q := gs_go f_79_14 rfl
theorem f_79_15 : ft 79 15 = some (27, .iconst (-1), []) := rfl
theorem s_79_15 {d : Nat} {σ : xS} {st : List Value} {Q : xR → xS → Prop} {l0 l1 : Option Value} : G d 79 15 [l0, l1] st σ Q ↔ G d 79 16 [l0, l1] (.int (-1) :: st) σ Q := gs_go f_79_15 rfl
theorem f_79_16 : ft 79 16 = some (28, .putfield 40, [6, 9, 0, 86]) := rfl
theorem s_79_16 {d : Nat} {t : yT} {st : List Value} {Q : xR → xS → Prop} {l0 l1 : Option Value} {a : Nat} {x : Int32} (ho : yisO 6 a) : G d 79 16 [l0, l1] (.int x :: .ref a :: st) (yemb t) Q ↔ G d 79 17 [l0, l1] st (yemb (t.s1 a 9 x)) Q := gs_putI (c := 6) (j := 9) f_79_16 (fun _ => rfl) rfl rfl ho
theorem f_79_17 : ft 79 17 = some (31, .aload_n 0, []) := rfl
theorem s_79_17 {d : Nat} {σ : xS} {st : List Value} {Q : xR → xS → Prop} {l1 : Option Value} {x : Nat} : G d 79 17 [some (.ref x), l1] st σ Q ↔ G d 79 18 [some (.ref x), l1] (.ref x :: st) σ Q := gs_go f_79_17 rfl
theorem f_79_18 : ft 79 18 = some (32, .invokevirtual 52, [80, 1, 0, 669]) := rfl
theorem s_79_18 {d : Nat} {t : yT} {st : List Value} {Q : xR → xS → Prop} {l0 l1 : Option Value} {a0 : Nat} (ho : yisO 6 a0) : G (d + 1) 79 18 [l0, l1] (.ref a0 :: st) (yemb t) Q ↔ xcat st ≤ 8 ∧ Cl d 80 [.ref a0] (yemb t) (Gk (d + 1) 79 18 [l0, l1] st Q) := gs_call f_79_18 ((xinv_call (i := 18) (n := 669) (ls := [l0, l1]) (kind := 0) (σ := yemb t) (by decide)).trans (xcall_vi [.ref a0] rfl rfl (show (1 : Nat) ≤ 1 by decide) rfl ho))
theorem f_79_19 : ft 79 19 = some (35, .return_, []) := rfl
theorem s_79_19 {d : Nat} {σ : xS} {ls : xL} {Q : xR → xS → Prop} : G d 79 19 ls [] σ Q ↔ Q (.inl none) σ := gs_ret f_79_19 rfl
theorem f_80_0 : ft 80 0 = some (0, .aload_n 0, []) := rfl
theorem s_80_0 {d : Nat} {σ : xS} {st : List Value} {Q : xR → xS → Prop} {x : Nat} : G d 80 0 [some (.ref x)] st σ Q ↔ G d 80 1 [some (.ref x)] (.ref x :: st) σ Q := gs_go f_80_0 rfl
theorem f_80_1 : ft 80 1 = some (1, .aload_n 0, []) := rfl
theorem s_80_1 {d : Nat} {σ : xS} {st : List Value} {Q : xR → xS → Prop} {x : Nat} : G d 80 1 [some (.ref x)] st σ Q ↔ G d 80 2 [some (.ref x)] (.ref x :: st) σ Q := gs_go f_80_1 rfl
theorem f_80_2 : ft 80 2 = some (2, .getfield 28, [6, 5, 0, 82]) := rfl
theorem s_80_2 {d : Nat} {t : yT} {st : List Value} {Q : xR → xS → Prop} {l0 : Option Value} {a : Nat} (ho : yisO 6 a) : G d 80 2 [l0] (.ref a :: st) (yemb t) Q ↔ G d 80 3 [l0] (.int (t.A a 5) :: st) (yemb t) Q := gs_getf (c := 6) (j := 5) (q := .i) f_80_2 ho rfl
theorem f_80_3 : ft 80 3 = some (5, .putfield 25, [6, 4, 0, 81]) := rfl
theorem s_80_3 {d : Nat} {t : yT} {st : List Value} {Q : xR → xS → Prop} {l0 : Option Value} {a : Nat} {x : Int32} (ho : yisO 6 a) : G d 80 3 [l0] (.int x :: .ref a :: st) (yemb t) Q ↔ G d 80 4 [l0] st (yemb (t.s1 a 4 x)) Q := gs_putI (c := 6) (j := 4) f_80_3 (fun _ => rfl) rfl rfl ho
theorem f_80_4 : ft 80 4 = some (8, .aload_n 0, []) := rfl
theorem s_80_4 {d : Nat} {σ : xS} {st : List Value} {Q : xR → xS → Prop} {x : Nat} : G d 80 4 [some (.ref x)] st σ Q ↔ G d 80 5 [some (.ref x)] (.ref x :: st) σ Q := gs_go f_80_4 rfl
theorem f_80_5 : ft 80 5 = some (9, .getfield 25, [6, 4, 0, 81]) := rfl
theorem s_80_5 {d : Nat} {t : yT} {st : List Value} {Q : xR → xS → Prop} {l0 : Option Value} {a : Nat} (ho : yisO 6 a) : G d 80 5 [l0] (.ref a :: st) (yemb t) Q ↔ G d 80 6 [l0] (.int (t.A a 4) :: st) (yemb t) Q := gs_getf (c := 6) (j := 4) (q := .i) f_80_5 ho rfl
theorem f_80_6 : ft 80 6 = some (12, .aload_n 0, []) := rfl
theorem s_80_6 {d : Nat} {σ : xS} {st : List Value} {Q : xR → xS → Prop} {x : Nat} : G d 80 6 [some (.ref x)] st σ Q ↔ G d 80 7 [some (.ref x)] (.ref x :: st) σ Q := gs_go f_80_6 rfl
theorem f_80_7 : ft 80 7 = some (13, .getfield 19, [6, 2, 0, 79]) := rfl
theorem s_80_7 {d : Nat} {t : yT} {st : List Value} {Q : xR → xS → Prop} {l0 : Option Value} {a : Nat} (ho : yisO 6 a) : G d 80 7 [l0] (.ref a :: st) (yemb t) Q ↔ G d 80 8 [l0] (.int (t.A a 2) :: st) (yemb t) Q := gs_getf (c := 6) (j := 2) (q := .i) f_80_7 ho rfl
theorem f_80_8 : ft 80 8 = some (16, .if_icmp .ge 30, [23]) := rfl
theorem s_80_8 {d : Nat} {σ : xS} {st : List Value} {Q : xR → xS → Prop} {l0 : Option Value} {x y : Int32} : G d 80 8 [l0] (.int y :: .int x :: st) σ Q ↔ if y ≤ x then G d 80 23 [l0] st σ Q else G d 80 9 [l0] st σ Q := gs_if f_80_8 rfl
theorem f_80_9 : ft 80 9 = some (19, .aload_n 0, []) := rfl
theorem s_80_9 {d : Nat} {σ : xS} {st : List Value} {Q : xR → xS → Prop} {x : Nat} : G d 80 9 [some (.ref x)] st σ Q ↔ G d 80 10 [some (.ref x)] (.ref x :: st) σ Q := gs_go f_80_9 rfl
theorem f_80_10 : ft 80 10 = some (20, .getfield 9, [6, 0, 0, 77]) := rfl
theorem s_80_10 {d : Nat} {t : yT} {st : List Value} {Q : xR → xS → Prop} {l0 : Option Value} {a : Nat} (ho : yisO 6 a) : G d 80 10 [l0] (.ref a :: st) (yemb t) Q ↔ G d 80 11 [l0] (.ref 2 :: st) (yemb t) Q := gs_getf (c := 6) (j := 0) (q := .c 2) f_80_10 ho rfl
theorem f_80_11 : ft 80 11 = some (23, .aload_n 0, []) := rfl
theorem s_80_11 {d : Nat} {σ : xS} {st : List Value} {Q : xR → xS → Prop} {x : Nat} : G d 80 11 [some (.ref x)] st σ Q ↔ G d 80 12 [some (.ref x)] (.ref x :: st) σ Q := gs_go f_80_11 rfl
theorem f_80_12 : ft 80 12 = some (24, .getfield 25, [6, 4, 0, 81]) := rfl
theorem s_80_12 {d : Nat} {t : yT} {st : List Value} {Q : xR → xS → Prop} {l0 : Option Value} {a : Nat} (ho : yisO 6 a) : G d 80 12 [l0] (.ref a :: st) (yemb t) Q ↔ G d 80 13 [l0] (.int (t.A a 4) :: st) (yemb t) Q := gs_getf (c := 6) (j := 4) (q := .i) f_80_12 ho rfl
theorem f_80_13 : ft 80 13 = some (27, .baload, []) := rfl
theorem s_80_13 {d : Nat} {t : yT} {st : List Value} {Q : xR → xS → Prop} {l0 : Option Value} {a : Nat} {x : Int32} (ha : yA 1 a) : G d 80 13 [l0] (.int x :: .ref a :: st) (yemb t) Q ↔ yix x (yn a) ∧ G d 80 14 [l0] (.int (t.A a x.toNatClampNeg) :: st) (yemb t) Q := gs_bald f_80_13 ha (by decide)
theorem f_80_14 : ft 80 14 = some (28, .bipush 32, []) := rfl
theorem s_80_14 {d : Nat} {σ : xS} {st : List Value} {Q : xR → xS → Prop} {l0 : Option Value} : G d 80 14 [l0] st σ Q ↔ G d 80 15 [l0] (.int (32) :: st) σ Q := gs_go f_80_14 rfl
theorem f_80_15 : ft 80 15 = some (30, .if_icmp .ne 16, [23]) := rfl
theorem s_80_15 {d : Nat} {σ : xS} {st : List Value} {Q : xR → xS → Prop} {l0 : Option Value} {x y : Int32} : G d 80 15 [l0] (.int y :: .int x :: st) σ Q ↔ if x ≠ y then G d 80 23 [l0] st σ Q else G d 80 16 [l0] st σ Q := gs_if f_80_15 rfl
theorem f_80_16 : ft 80 16 = some (33, .aload_n 0, []) := rfl
theorem s_80_16 {d : Nat} {σ : xS} {st : List Value} {Q : xR → xS → Prop} {x : Nat} : G d 80 16 [some (.ref x)] st σ Q ↔ G d 80 17 [some (.ref x)] (.ref x :: st) σ Q := gs_go f_80_16 rfl
theorem f_80_17 : ft 80 17 = some (34, .dup, []) := rfl
theorem s_80_17 {d : Nat} {σ : xS} {st : List Value} {Q : xR → xS → Prop} {l0 : Option Value} {x : Nat} : G d 80 17 [l0] (.ref x :: st) σ Q ↔ G d 80 18 [l0] (.ref x :: .ref x :: st) σ Q := gs_go f_80_17 rfl
theorem s_80_17i {d : Nat} {σ : xS} {st : List Value} {Q : xR → xS → Prop} {l0 : Option Value} {x : Int32} : G d 80 17 [l0] (.int x :: st) σ Q ↔ G d 80 18 [l0] (.int x :: .int x :: st) σ Q := gs_go f_80_17 rfl
theorem f_80_18 : ft 80 18 = some (35, .getfield 25, [6, 4, 0, 81]) := rfl
theorem s_80_18 {d : Nat} {t : yT} {st : List Value} {Q : xR → xS → Prop} {l0 : Option Value} {a : Nat} (ho : yisO 6 a) : G d 80 18 [l0] (.ref a :: st) (yemb t) Q ↔ G d 80 19 [l0] (.int (t.A a 4) :: st) (yemb t) Q := gs_getf (c := 6) (j := 4) (q := .i) f_80_18 ho rfl
theorem f_80_19 : ft 80 19 = some (38, .iconst 1, []) := rfl
theorem s_80_19 {d : Nat} {σ : xS} {st : List Value} {Q : xR → xS → Prop} {l0 : Option Value} : G d 80 19 [l0] st σ Q ↔ G d 80 20 [l0] (.int (1) :: st) σ Q := gs_go f_80_19 rfl
theorem f_80_20 : ft 80 20 = some (39, .iadd, []) := rfl
theorem s_80_20 {d : Nat} {σ : xS} {st : List Value} {Q : xR → xS → Prop} {l0 : Option Value} {x y : Int32} : G d 80 20 [l0] (.int y :: .int x :: st) σ Q ↔ G d 80 21 [l0] (.int (x + y) :: st) σ Q := gs_go f_80_20 rfl
theorem f_80_21 : ft 80 21 = some (40, .putfield 25, [6, 4, 0, 81]) := rfl
theorem s_80_21 {d : Nat} {t : yT} {st : List Value} {Q : xR → xS → Prop} {l0 : Option Value} {a : Nat} {x : Int32} (ho : yisO 6 a) : G d 80 21 [l0] (.int x :: .ref a :: st) (yemb t) Q ↔ G d 80 22 [l0] st (yemb (t.s1 a 4 x)) Q := gs_putI (c := 6) (j := 4) f_80_21 (fun _ => rfl) rfl rfl ho
theorem f_80_22 : ft 80 22 = some (43, .goto (-35), [4]) := rfl
theorem s_80_22 {d : Nat} {σ : xS} {st : List Value} {Q : xR → xS → Prop} {l0 : Option Value} : G d 80 22 [l0] st σ Q ↔ G d 80 4 [l0] st σ Q := gs_go f_80_22 rfl
theorem f_80_23 : ft 80 23 = some (46, .aload_n 0, []) := rfl
theorem s_80_23 {d : Nat} {σ : xS} {st : List Value} {Q : xR → xS → Prop} {x : Nat} : G d 80 23 [some (.ref x)] st σ Q ↔ G d 80 24 [some (.ref x)] (.ref x :: st) σ Q := gs_go f_80_23 rfl
theorem f_80_24 : ft 80 24 = some (47, .aload_n 0, []) := rfl
theorem s_80_24 {d : Nat} {σ : xS} {st : List Value} {Q : xR → xS → Prop} {x : Nat} : G d 80 24 [some (.ref x)] st σ Q ↔ G d 80 25 [some (.ref x)] (.ref x :: st) σ Q := gs_go f_80_24 rfl
theorem f_80_25 : ft 80 25 = some (48, .getfield 25, [6, 4, 0, 81]) := rfl
theorem s_80_25 {d : Nat} {t : yT} {st : List Value} {Q : xR → xS → Prop} {l0 : Option Value} {a : Nat} (ho : yisO 6 a) : G d 80 25 [l0] (.ref a :: st) (yemb t) Q ↔ G d 80 26 [l0] (.int (t.A a 4) :: st) (yemb t) Q := gs_getf (c := 6) (j := 4) (q := .i) f_80_25 ho rfl
theorem f_80_26 : ft 80 26 = some (51, .putfield 28, [6, 5, 0, 82]) := rfl
theorem s_80_26 {d : Nat} {t : yT} {st : List Value} {Q : xR → xS → Prop} {l0 : Option Value} {a : Nat} {x : Int32} (ho : yisO 6 a) : G d 80 26 [l0] (.int x :: .ref a :: st) (yemb t) Q ↔ G d 80 27 [l0] st (yemb (t.s1 a 5 x)) Q := gs_putI (c := 6) (j := 5) f_80_26 (fun _ => rfl) rfl rfl ho
theorem f_80_27 : ft 80 27 = some (54, .aload_n 0, []) := rfl
theorem s_80_27 {d : Nat} {σ : xS} {st : List Value} {Q : xR → xS → Prop} {x : Nat} : G d 80 27 [some (.ref x)] st σ Q ↔ G d 80 28 [some (.ref x)] (.ref x :: st) σ Q := gs_go f_80_27 rfl
theorem f_80_28 : ft 80 28 = some (55, .iconst 0, []) := rfl
theorem s_80_28 {d : Nat} {σ : xS} {st : List Value} {Q : xR → xS → Prop} {l0 : Option Value} : G d 80 28 [l0] st σ Q ↔ G d 80 29 [l0] (.int (0) :: st) σ Q := gs_go f_80_28 rfl
theorem f_80_29 : ft 80 29 = some (56, .putfield 31, [6, 6, 0, 83]) := rfl
theorem s_80_29 {d : Nat} {t : yT} {st : List Value} {Q : xR → xS → Prop} {l0 : Option Value} {a : Nat} {x : Int32} (ho : yisO 6 a) : G d 80 29 [l0] (.int x :: .ref a :: st) (yemb t) Q ↔ G d 80 30 [l0] st (yemb (t.s1 a 6 x)) Q := gs_putI (c := 6) (j := 6) f_80_29 (fun _ => rfl) rfl rfl ho
theorem f_80_30 : ft 80 30 = some (59, .aload_n 0, []) := rfl
theorem s_80_30 {d : Nat} {σ : xS} {st : List Value} {Q : xR → xS → Prop} {x : Nat} : G d 80 30 [some (.ref x)] st σ Q ↔ G d 80 31 [some (.ref x)] (.ref x :: st) σ Q := gs_go f_80_30 rfl
theorem f_80_31 : ft 80 31 = some (60, .getfield 25, [6, 4, 0, 81]) := rfl
theorem s_80_31 {d : Nat} {t : yT} {st : List Value} {Q : xR → xS → Prop} {l0 : Option Value} {a : Nat} (ho : yisO 6 a) : G d 80 31 [l0] (.ref a :: st) (yemb t) Q ↔ G d 80 32 [l0] (.int (t.A a 4) :: st) (yemb t) Q := gs_getf (c := 6) (j := 4) (q := .i) f_80_31 ho rfl
theorem f_80_32 : ft 80 32 = some (63, .aload_n 0, []) := rfl
theorem s_80_32 {d : Nat} {σ : xS} {st : List Value} {Q : xR → xS → Prop} {x : Nat} : G d 80 32 [some (.ref x)] st σ Q ↔ G d 80 33 [some (.ref x)] (.ref x :: st) σ Q := gs_go f_80_32 rfl
theorem f_80_33 : ft 80 33 = some (64, .getfield 19, [6, 2, 0, 79]) := rfl
theorem s_80_33 {d : Nat} {t : yT} {st : List Value} {Q : xR → xS → Prop} {l0 : Option Value} {a : Nat} (ho : yisO 6 a) : G d 80 33 [l0] (.ref a :: st) (yemb t) Q ↔ G d 80 34 [l0] (.int (t.A a 2) :: st) (yemb t) Q := gs_getf (c := 6) (j := 2) (q := .i) f_80_33 ho rfl
theorem f_80_34 : ft 80 34 = some (67, .if_icmp .lt 11, [39]) := rfl
theorem s_80_34 {d : Nat} {σ : xS} {st : List Value} {Q : xR → xS → Prop} {l0 : Option Value} {x y : Int32} : G d 80 34 [l0] (.int y :: .int x :: st) σ Q ↔ if x < y then G d 80 39 [l0] st σ Q else G d 80 35 [l0] st σ Q := gs_if f_80_34 rfl
theorem f_80_35 : ft 80 35 = some (70, .aload_n 0, []) := rfl
theorem s_80_35 {d : Nat} {σ : xS} {st : List Value} {Q : xR → xS → Prop} {x : Nat} : G d 80 35 [some (.ref x)] st σ Q ↔ G d 80 36 [some (.ref x)] (.ref x :: st) σ Q := gs_go f_80_35 rfl
theorem f_80_36 : ft 80 36 = some (71, .iconst 0, []) := rfl
theorem s_80_36 {d : Nat} {σ : xS} {st : List Value} {Q : xR → xS → Prop} {l0 : Option Value} : G d 80 36 [l0] st σ Q ↔ G d 80 37 [l0] (.int (0) :: st) σ Q := gs_go f_80_36 rfl
theorem f_80_37 : ft 80 37 = some (72, .putfield 22, [6, 3, 0, 80]) := rfl
theorem s_80_37 {d : Nat} {t : yT} {st : List Value} {Q : xR → xS → Prop} {l0 : Option Value} {a : Nat} {x : Int32} (ho : yisO 6 a) : G d 80 37 [l0] (.int x :: .ref a :: st) (yemb t) Q ↔ G d 80 38 [l0] st (yemb (t.s1 a 3 x)) Q := gs_putI (c := 6) (j := 3) f_80_37 (fun _ => rfl) rfl rfl ho
theorem f_80_38 : ft 80 38 = some (75, .goto 174, [126]) := rfl
theorem s_80_38 {d : Nat} {σ : xS} {st : List Value} {Q : xR → xS → Prop} {l0 : Option Value} : G d 80 38 [l0] st σ Q ↔ G d 80 126 [l0] st σ Q := gs_go f_80_38 rfl
theorem f_80_39 : ft 80 39 = some (78, .aload_n 0, []) := rfl
theorem s_80_39 {d : Nat} {σ : xS} {st : List Value} {Q : xR → xS → Prop} {x : Nat} : G d 80 39 [some (.ref x)] st σ Q ↔ G d 80 40 [some (.ref x)] (.ref x :: st) σ Q := gs_go f_80_39 rfl
theorem f_80_40 : ft 80 40 = some (79, .getfield 9, [6, 0, 0, 77]) := rfl
theorem s_80_40 {d : Nat} {t : yT} {st : List Value} {Q : xR → xS → Prop} {l0 : Option Value} {a : Nat} (ho : yisO 6 a) : G d 80 40 [l0] (.ref a :: st) (yemb t) Q ↔ G d 80 41 [l0] (.ref 2 :: st) (yemb t) Q := gs_getf (c := 6) (j := 0) (q := .c 2) f_80_40 ho rfl
theorem f_80_41 : ft 80 41 = some (82, .aload_n 0, []) := rfl
theorem s_80_41 {d : Nat} {σ : xS} {st : List Value} {Q : xR → xS → Prop} {x : Nat} : G d 80 41 [some (.ref x)] st σ Q ↔ G d 80 42 [some (.ref x)] (.ref x :: st) σ Q := gs_go f_80_41 rfl
theorem f_80_42 : ft 80 42 = some (83, .getfield 25, [6, 4, 0, 81]) := rfl
theorem s_80_42 {d : Nat} {t : yT} {st : List Value} {Q : xR → xS → Prop} {l0 : Option Value} {a : Nat} (ho : yisO 6 a) : G d 80 42 [l0] (.ref a :: st) (yemb t) Q ↔ G d 80 43 [l0] (.int (t.A a 4) :: st) (yemb t) Q := gs_getf (c := 6) (j := 4) (q := .i) f_80_42 ho rfl
theorem f_80_43 : ft 80 43 = some (86, .baload, []) := rfl
theorem s_80_43 {d : Nat} {t : yT} {st : List Value} {Q : xR → xS → Prop} {l0 : Option Value} {a : Nat} {x : Int32} (ha : yA 1 a) : G d 80 43 [l0] (.int x :: .ref a :: st) (yemb t) Q ↔ yix x (yn a) ∧ G d 80 44 [l0] (.int (t.A a x.toNatClampNeg) :: st) (yemb t) Q := gs_bald f_80_43 ha (by decide)
theorem f_80_44 : ft 80 44 = some (87, .invokestatic 55, [81, 1, 1, 673]) := rfl
theorem s_80_44 {d : Nat} {σ : xS} {st : List Value} {Q : xR → xS → Prop} {l0 : Option Value} {a0 : Int32} : G (d + 1) 80 44 [l0] (.int a0 :: st) σ Q ↔ xcat st ≤ 8 ∧ Cl d 81 [.int a0] σ (Gk (d + 1) 80 44 [l0] st Q) := gs_call f_80_44 ((xinv_call (i := 44) (n := 673) (ls := [l0]) (kind := 1) (σ := σ) (by decide)).trans (xcall_st [.int a0] rfl (by decide) (show (1 : Nat) ≤ 1 by decide)))
theorem f_80_45 : ft 80 45 = some (90, .ifCond .eq 85, [88]) := rfl
theorem s_80_45 {d : Nat} {σ : xS} {st : List Value} {Q : xR → xS → Prop} {l0 : Option Value} {x : Int32} : G d 80 45 [l0] (.int x :: st) σ Q ↔ if x = 0 then G d 80 88 [l0] st σ Q else G d 80 46 [l0] st σ Q := gs_if f_80_45 rfl
theorem f_80_46 : ft 80 46 = some (93, .aload_n 0, []) := rfl
theorem s_80_46 {d : Nat} {σ : xS} {st : List Value} {Q : xR → xS → Prop} {x : Nat} : G d 80 46 [some (.ref x)] st σ Q ↔ G d 80 47 [some (.ref x)] (.ref x :: st) σ Q := gs_go f_80_46 rfl
theorem f_80_47 : ft 80 47 = some (94, .iconst 1, []) := rfl
theorem s_80_47 {d : Nat} {σ : xS} {st : List Value} {Q : xR → xS → Prop} {l0 : Option Value} : G d 80 47 [l0] st σ Q ↔ G d 80 48 [l0] (.int (1) :: st) σ Q := gs_go f_80_47 rfl
theorem f_80_48 : ft 80 48 = some (95, .putfield 22, [6, 3, 0, 80]) := rfl
theorem s_80_48 {d : Nat} {t : yT} {st : List Value} {Q : xR → xS → Prop} {l0 : Option Value} {a : Nat} {x : Int32} (ho : yisO 6 a) : G d 80 48 [l0] (.int x :: .ref a :: st) (yemb t) Q ↔ G d 80 49 [l0] st (yemb (t.s1 a 3 x)) Q := gs_putI (c := 6) (j := 3) f_80_48 (fun _ => rfl) rfl rfl ho
theorem f_80_49 : ft 80 49 = some (98, .aload_n 0, []) := rfl
theorem s_80_49 {d : Nat} {σ : xS} {st : List Value} {Q : xR → xS → Prop} {x : Nat} : G d 80 49 [some (.ref x)] st σ Q ↔ G d 80 50 [some (.ref x)] (.ref x :: st) σ Q := gs_go f_80_49 rfl
theorem f_80_50 : ft 80 50 = some (99, .getfield 28, [6, 5, 0, 82]) := rfl
theorem s_80_50 {d : Nat} {t : yT} {st : List Value} {Q : xR → xS → Prop} {l0 : Option Value} {a : Nat} (ho : yisO 6 a) : G d 80 50 [l0] (.ref a :: st) (yemb t) Q ↔ G d 80 51 [l0] (.int (t.A a 5) :: st) (yemb t) Q := gs_getf (c := 6) (j := 5) (q := .i) f_80_50 ho rfl
theorem f_80_51 : ft 80 51 = some (102, .aload_n 0, []) := rfl
theorem s_80_51 {d : Nat} {σ : xS} {st : List Value} {Q : xR → xS → Prop} {x : Nat} : G d 80 51 [some (.ref x)] st σ Q ↔ G d 80 52 [some (.ref x)] (.ref x :: st) σ Q := gs_go f_80_51 rfl
theorem f_80_52 : ft 80 52 = some (103, .getfield 19, [6, 2, 0, 79]) := rfl
theorem s_80_52 {d : Nat} {t : yT} {st : List Value} {Q : xR → xS → Prop} {l0 : Option Value} {a : Nat} (ho : yisO 6 a) : G d 80 52 [l0] (.ref a :: st) (yemb t) Q ↔ G d 80 53 [l0] (.int (t.A a 2) :: st) (yemb t) Q := gs_getf (c := 6) (j := 2) (q := .i) f_80_52 ho rfl
theorem f_80_53 : ft 80 53 = some (106, .if_icmp .ge 143, [126]) := rfl
theorem s_80_53 {d : Nat} {σ : xS} {st : List Value} {Q : xR → xS → Prop} {l0 : Option Value} {x y : Int32} : G d 80 53 [l0] (.int y :: .int x :: st) σ Q ↔ if y ≤ x then G d 80 126 [l0] st σ Q else G d 80 54 [l0] st σ Q := gs_if f_80_53 rfl
theorem f_80_54 : ft 80 54 = some (109, .aload_n 0, []) := rfl
theorem s_80_54 {d : Nat} {σ : xS} {st : List Value} {Q : xR → xS → Prop} {x : Nat} : G d 80 54 [some (.ref x)] st σ Q ↔ G d 80 55 [some (.ref x)] (.ref x :: st) σ Q := gs_go f_80_54 rfl
theorem f_80_55 : ft 80 55 = some (110, .getfield 9, [6, 0, 0, 77]) := rfl
theorem s_80_55 {d : Nat} {t : yT} {st : List Value} {Q : xR → xS → Prop} {l0 : Option Value} {a : Nat} (ho : yisO 6 a) : G d 80 55 [l0] (.ref a :: st) (yemb t) Q ↔ G d 80 56 [l0] (.ref 2 :: st) (yemb t) Q := gs_getf (c := 6) (j := 0) (q := .c 2) f_80_55 ho rfl
theorem f_80_56 : ft 80 56 = some (113, .aload_n 0, []) := rfl
theorem s_80_56 {d : Nat} {σ : xS} {st : List Value} {Q : xR → xS → Prop} {x : Nat} : G d 80 56 [some (.ref x)] st σ Q ↔ G d 80 57 [some (.ref x)] (.ref x :: st) σ Q := gs_go f_80_56 rfl
theorem f_80_57 : ft 80 57 = some (114, .getfield 28, [6, 5, 0, 82]) := rfl
theorem s_80_57 {d : Nat} {t : yT} {st : List Value} {Q : xR → xS → Prop} {l0 : Option Value} {a : Nat} (ho : yisO 6 a) : G d 80 57 [l0] (.ref a :: st) (yemb t) Q ↔ G d 80 58 [l0] (.int (t.A a 5) :: st) (yemb t) Q := gs_getf (c := 6) (j := 5) (q := .i) f_80_57 ho rfl
theorem f_80_58 : ft 80 58 = some (117, .baload, []) := rfl
theorem s_80_58 {d : Nat} {t : yT} {st : List Value} {Q : xR → xS → Prop} {l0 : Option Value} {a : Nat} {x : Int32} (ha : yA 1 a) : G d 80 58 [l0] (.int x :: .ref a :: st) (yemb t) Q ↔ yix x (yn a) ∧ G d 80 59 [l0] (.int (t.A a x.toNatClampNeg) :: st) (yemb t) Q := gs_bald f_80_58 ha (by decide)
theorem f_80_59 : ft 80 59 = some (118, .invokestatic 55, [81, 1, 1, 673]) := rfl
theorem s_80_59 {d : Nat} {σ : xS} {st : List Value} {Q : xR → xS → Prop} {l0 : Option Value} {a0 : Int32} : G (d + 1) 80 59 [l0] (.int a0 :: st) σ Q ↔ xcat st ≤ 8 ∧ Cl d 81 [.int a0] σ (Gk (d + 1) 80 59 [l0] st Q) := gs_call f_80_59 ((xinv_call (i := 59) (n := 673) (ls := [l0]) (kind := 1) (σ := σ) (by decide)).trans (xcall_st [.int a0] rfl (by decide) (show (1 : Nat) ≤ 1 by decide)))
theorem f_80_60 : ft 80 60 = some (121, .ifCond .eq 128, [126]) := rfl
theorem s_80_60 {d : Nat} {σ : xS} {st : List Value} {Q : xR → xS → Prop} {l0 : Option Value} {x : Int32} : G d 80 60 [l0] (.int x :: st) σ Q ↔ if x = 0 then G d 80 126 [l0] st σ Q else G d 80 61 [l0] st σ Q := gs_if f_80_60 rfl
theorem f_80_61 : ft 80 61 = some (124, .aload_n 0, []) := rfl
theorem s_80_61 {d : Nat} {σ : xS} {st : List Value} {Q : xR → xS → Prop} {x : Nat} : G d 80 61 [some (.ref x)] st σ Q ↔ G d 80 62 [some (.ref x)] (.ref x :: st) σ Q := gs_go f_80_61 rfl
theorem f_80_62 : ft 80 62 = some (125, .aload_n 0, []) := rfl
theorem s_80_62 {d : Nat} {σ : xS} {st : List Value} {Q : xR → xS → Prop} {x : Nat} : G d 80 62 [some (.ref x)] st σ Q ↔ G d 80 63 [some (.ref x)] (.ref x :: st) σ Q := gs_go f_80_62 rfl
theorem f_80_63 : ft 80 63 = some (126, .getfield 31, [6, 6, 0, 83]) := rfl
theorem s_80_63 {d : Nat} {t : yT} {st : List Value} {Q : xR → xS → Prop} {l0 : Option Value} {a : Nat} (ho : yisO 6 a) : G d 80 63 [l0] (.ref a :: st) (yemb t) Q ↔ G d 80 64 [l0] (.int (t.A a 6) :: st) (yemb t) Q := gs_getf (c := 6) (j := 6) (q := .i) f_80_63 ho rfl
theorem f_80_64 : ft 80 64 = some (129, .ldc 59, [0, 1000000, 676]) := rfl
theorem s_80_64 {d : Nat} {σ : xS} {st : List Value} {Q : xR → xS → Prop} {l0 : Option Value} : G d 80 64 [l0] st σ Q ↔ G d 80 65 [l0] (.int (1000000) :: st) σ Q := gs_go f_80_64 rfl
theorem f_80_65 : ft 80 65 = some (131, .if_icmp .lt 8, [68]) := rfl
theorem s_80_65 {d : Nat} {σ : xS} {st : List Value} {Q : xR → xS → Prop} {l0 : Option Value} {x y : Int32} : G d 80 65 [l0] (.int y :: .int x :: st) σ Q ↔ if x < y then G d 80 68 [l0] st σ Q else G d 80 66 [l0] st σ Q := gs_if f_80_65 rfl
theorem f_80_66 : ft 80 66 = some (134, .ldc 59, [0, 1000000, 676]) := rfl
theorem s_80_66 {d : Nat} {σ : xS} {st : List Value} {Q : xR → xS → Prop} {l0 : Option Value} : G d 80 66 [l0] st σ Q ↔ G d 80 67 [l0] (.int (1000000) :: st) σ Q := gs_go f_80_66 rfl
theorem f_80_67 : ft 80 67 = some (136, .goto 23, [80]) := rfl
theorem s_80_67 {d : Nat} {σ : xS} {st : List Value} {Q : xR → xS → Prop} {l0 : Option Value} : G d 80 67 [l0] st σ Q ↔ G d 80 80 [l0] st σ Q := gs_go f_80_67 rfl
theorem f_80_68 : ft 80 68 = some (139, .bipush 10, []) := rfl
theorem s_80_68 {d : Nat} {σ : xS} {st : List Value} {Q : xR → xS → Prop} {l0 : Option Value} : G d 80 68 [l0] st σ Q ↔ G d 80 69 [l0] (.int (10) :: st) σ Q := gs_go f_80_68 rfl
theorem f_80_69 : ft 80 69 = some (141, .aload_n 0, []) := rfl
theorem s_80_69 {d : Nat} {σ : xS} {st : List Value} {Q : xR → xS → Prop} {x : Nat} : G d 80 69 [some (.ref x)] st σ Q ↔ G d 80 70 [some (.ref x)] (.ref x :: st) σ Q := gs_go f_80_69 rfl
theorem f_80_70 : ft 80 70 = some (142, .getfield 31, [6, 6, 0, 83]) := rfl
theorem s_80_70 {d : Nat} {t : yT} {st : List Value} {Q : xR → xS → Prop} {l0 : Option Value} {a : Nat} (ho : yisO 6 a) : G d 80 70 [l0] (.ref a :: st) (yemb t) Q ↔ G d 80 71 [l0] (.int (t.A a 6) :: st) (yemb t) Q := gs_getf (c := 6) (j := 6) (q := .i) f_80_70 ho rfl
theorem f_80_71 : ft 80 71 = some (145, .imul, []) := rfl
theorem s_80_71 {d : Nat} {σ : xS} {st : List Value} {Q : xR → xS → Prop} {l0 : Option Value} {x y : Int32} : G d 80 71 [l0] (.int y :: .int x :: st) σ Q ↔ G d 80 72 [l0] (.int (x * y) :: st) σ Q := gs_go f_80_71 rfl
theorem f_80_72 : ft 80 72 = some (146, .aload_n 0, []) := rfl
theorem s_80_72 {d : Nat} {σ : xS} {st : List Value} {Q : xR → xS → Prop} {x : Nat} : G d 80 72 [some (.ref x)] st σ Q ↔ G d 80 73 [some (.ref x)] (.ref x :: st) σ Q := gs_go f_80_72 rfl
theorem f_80_73 : ft 80 73 = some (147, .getfield 9, [6, 0, 0, 77]) := rfl
theorem s_80_73 {d : Nat} {t : yT} {st : List Value} {Q : xR → xS → Prop} {l0 : Option Value} {a : Nat} (ho : yisO 6 a) : G d 80 73 [l0] (.ref a :: st) (yemb t) Q ↔ G d 80 74 [l0] (.ref 2 :: st) (yemb t) Q := gs_getf (c := 6) (j := 0) (q := .c 2) f_80_73 ho rfl
theorem f_80_74 : ft 80 74 = some (150, .aload_n 0, []) := rfl
theorem s_80_74 {d : Nat} {σ : xS} {st : List Value} {Q : xR → xS → Prop} {x : Nat} : G d 80 74 [some (.ref x)] st σ Q ↔ G d 80 75 [some (.ref x)] (.ref x :: st) σ Q := gs_go f_80_74 rfl
theorem f_80_75 : ft 80 75 = some (151, .getfield 28, [6, 5, 0, 82]) := rfl
theorem s_80_75 {d : Nat} {t : yT} {st : List Value} {Q : xR → xS → Prop} {l0 : Option Value} {a : Nat} (ho : yisO 6 a) : G d 80 75 [l0] (.ref a :: st) (yemb t) Q ↔ G d 80 76 [l0] (.int (t.A a 5) :: st) (yemb t) Q := gs_getf (c := 6) (j := 5) (q := .i) f_80_75 ho rfl
theorem f_80_76 : ft 80 76 = some (154, .baload, []) := rfl
theorem s_80_76 {d : Nat} {t : yT} {st : List Value} {Q : xR → xS → Prop} {l0 : Option Value} {a : Nat} {x : Int32} (ha : yA 1 a) : G d 80 76 [l0] (.int x :: .ref a :: st) (yemb t) Q ↔ yix x (yn a) ∧ G d 80 77 [l0] (.int (t.A a x.toNatClampNeg) :: st) (yemb t) Q := gs_bald f_80_76 ha (by decide)
theorem f_80_77 : ft 80 77 = some (155, .iadd, []) := rfl
theorem s_80_77 {d : Nat} {σ : xS} {st : List Value} {Q : xR → xS → Prop} {l0 : Option Value} {x y : Int32} : G d 80 77 [l0] (.int y :: .int x :: st) σ Q ↔ G d 80 78 [l0] (.int (x + y) :: st) σ Q := gs_go f_80_77 rfl
theorem f_80_78 : ft 80 78 = some (156, .bipush 48, []) := rfl
theorem s_80_78 {d : Nat} {σ : xS} {st : List Value} {Q : xR → xS → Prop} {l0 : Option Value} : G d 80 78 [l0] st σ Q ↔ G d 80 79 [l0] (.int (48) :: st) σ Q := gs_go f_80_78 rfl
theorem f_80_79 : ft 80 79 = some (158, .isub, []) := rfl
theorem s_80_79 {d : Nat} {σ : xS} {st : List Value} {Q : xR → xS → Prop} {l0 : Option Value} {x y : Int32} : G d 80 79 [l0] (.int y :: .int x :: st) σ Q ↔ G d 80 80 [l0] (.int (x - y) :: st) σ Q := gs_go f_80_79 rfl
theorem f_80_80 : ft 80 80 = some (159, .putfield 31, [6, 6, 0, 83]) := rfl
theorem s_80_80 {d : Nat} {t : yT} {st : List Value} {Q : xR → xS → Prop} {l0 : Option Value} {a : Nat} {x : Int32} (ho : yisO 6 a) : G d 80 80 [l0] (.int x :: .ref a :: st) (yemb t) Q ↔ G d 80 81 [l0] st (yemb (t.s1 a 6 x)) Q := gs_putI (c := 6) (j := 6) f_80_80 (fun _ => rfl) rfl rfl ho
theorem f_80_81 : ft 80 81 = some (162, .aload_n 0, []) := rfl
theorem s_80_81 {d : Nat} {σ : xS} {st : List Value} {Q : xR → xS → Prop} {x : Nat} : G d 80 81 [some (.ref x)] st σ Q ↔ G d 80 82 [some (.ref x)] (.ref x :: st) σ Q := gs_go f_80_81 rfl
theorem f_80_82 : ft 80 82 = some (163, .dup, []) := rfl
theorem s_80_82 {d : Nat} {σ : xS} {st : List Value} {Q : xR → xS → Prop} {l0 : Option Value} {x : Nat} : G d 80 82 [l0] (.ref x :: st) σ Q ↔ G d 80 83 [l0] (.ref x :: .ref x :: st) σ Q := gs_go f_80_82 rfl
theorem s_80_82i {d : Nat} {σ : xS} {st : List Value} {Q : xR → xS → Prop} {l0 : Option Value} {x : Int32} : G d 80 82 [l0] (.int x :: st) σ Q ↔ G d 80 83 [l0] (.int x :: .int x :: st) σ Q := gs_go f_80_82 rfl
theorem f_80_83 : ft 80 83 = some (164, .getfield 28, [6, 5, 0, 82]) := rfl
theorem s_80_83 {d : Nat} {t : yT} {st : List Value} {Q : xR → xS → Prop} {l0 : Option Value} {a : Nat} (ho : yisO 6 a) : G d 80 83 [l0] (.ref a :: st) (yemb t) Q ↔ G d 80 84 [l0] (.int (t.A a 5) :: st) (yemb t) Q := gs_getf (c := 6) (j := 5) (q := .i) f_80_83 ho rfl
theorem f_80_84 : ft 80 84 = some (167, .iconst 1, []) := rfl
theorem s_80_84 {d : Nat} {σ : xS} {st : List Value} {Q : xR → xS → Prop} {l0 : Option Value} : G d 80 84 [l0] st σ Q ↔ G d 80 85 [l0] (.int (1) :: st) σ Q := gs_go f_80_84 rfl
theorem f_80_85 : ft 80 85 = some (168, .iadd, []) := rfl
theorem s_80_85 {d : Nat} {σ : xS} {st : List Value} {Q : xR → xS → Prop} {l0 : Option Value} {x y : Int32} : G d 80 85 [l0] (.int y :: .int x :: st) σ Q ↔ G d 80 86 [l0] (.int (x + y) :: st) σ Q := gs_go f_80_85 rfl
theorem f_80_86 : ft 80 86 = some (169, .putfield 28, [6, 5, 0, 82]) := rfl
theorem s_80_86 {d : Nat} {t : yT} {st : List Value} {Q : xR → xS → Prop} {l0 : Option Value} {a : Nat} {x : Int32} (ho : yisO 6 a) : G d 80 86 [l0] (.int x :: .ref a :: st) (yemb t) Q ↔ G d 80 87 [l0] st (yemb (t.s1 a 5 x)) Q := gs_putI (c := 6) (j := 5) f_80_86 (fun _ => rfl) rfl rfl ho
theorem f_80_87 : ft 80 87 = some (172, .goto (-74), [49]) := rfl
theorem s_80_87 {d : Nat} {σ : xS} {st : List Value} {Q : xR → xS → Prop} {l0 : Option Value} : G d 80 87 [l0] st σ Q ↔ G d 80 49 [l0] st σ Q := gs_go f_80_87 rfl
theorem f_80_88 : ft 80 88 = some (175, .aload_n 0, []) := rfl
theorem s_80_88 {d : Nat} {σ : xS} {st : List Value} {Q : xR → xS → Prop} {x : Nat} : G d 80 88 [some (.ref x)] st σ Q ↔ G d 80 89 [some (.ref x)] (.ref x :: st) σ Q := gs_go f_80_88 rfl
theorem f_80_89 : ft 80 89 = some (176, .getfield 9, [6, 0, 0, 77]) := rfl
theorem s_80_89 {d : Nat} {t : yT} {st : List Value} {Q : xR → xS → Prop} {l0 : Option Value} {a : Nat} (ho : yisO 6 a) : G d 80 89 [l0] (.ref a :: st) (yemb t) Q ↔ G d 80 90 [l0] (.ref 2 :: st) (yemb t) Q := gs_getf (c := 6) (j := 0) (q := .c 2) f_80_89 ho rfl
theorem f_80_90 : ft 80 90 = some (179, .aload_n 0, []) := rfl
theorem s_80_90 {d : Nat} {σ : xS} {st : List Value} {Q : xR → xS → Prop} {x : Nat} : G d 80 90 [some (.ref x)] st σ Q ↔ G d 80 91 [some (.ref x)] (.ref x :: st) σ Q := gs_go f_80_90 rfl
theorem f_80_91 : ft 80 91 = some (180, .getfield 25, [6, 4, 0, 81]) := rfl
theorem s_80_91 {d : Nat} {t : yT} {st : List Value} {Q : xR → xS → Prop} {l0 : Option Value} {a : Nat} (ho : yisO 6 a) : G d 80 91 [l0] (.ref a :: st) (yemb t) Q ↔ G d 80 92 [l0] (.int (t.A a 4) :: st) (yemb t) Q := gs_getf (c := 6) (j := 4) (q := .i) f_80_91 ho rfl
theorem f_80_92 : ft 80 92 = some (183, .baload, []) := rfl
theorem s_80_92 {d : Nat} {t : yT} {st : List Value} {Q : xR → xS → Prop} {l0 : Option Value} {a : Nat} {x : Int32} (ha : yA 1 a) : G d 80 92 [l0] (.int x :: .ref a :: st) (yemb t) Q ↔ yix x (yn a) ∧ G d 80 93 [l0] (.int (t.A a x.toNatClampNeg) :: st) (yemb t) Q := gs_bald f_80_92 ha (by decide)
theorem f_80_93 : ft 80 93 = some (184, .invokestatic 60, [82, 1, 1, 677]) := rfl
theorem s_80_93 {d : Nat} {σ : xS} {st : List Value} {Q : xR → xS → Prop} {l0 : Option Value} {a0 : Int32} : G (d + 1) 80 93 [l0] (.int a0 :: st) σ Q ↔ xcat st ≤ 8 ∧ Cl d 82 [.int a0] σ (Gk (d + 1) 80 93 [l0] st Q) := gs_call f_80_93 ((xinv_call (i := 93) (n := 677) (ls := [l0]) (kind := 1) (σ := σ) (by decide)).trans (xcall_st [.int a0] rfl (by decide) (show (1 : Nat) ≤ 1 by decide)))
theorem f_80_94 : ft 80 94 = some (187, .ifCond .eq 47, [117]) := rfl
theorem s_80_94 {d : Nat} {σ : xS} {st : List Value} {Q : xR → xS → Prop} {l0 : Option Value} {x : Int32} : G d 80 94 [l0] (.int x :: st) σ Q ↔ if x = 0 then G d 80 117 [l0] st σ Q else G d 80 95 [l0] st σ Q := gs_if f_80_94 rfl
theorem f_80_95 : ft 80 95 = some (190, .aload_n 0, []) := rfl
theorem s_80_95 {d : Nat} {σ : xS} {st : List Value} {Q : xR → xS → Prop} {x : Nat} : G d 80 95 [some (.ref x)] st σ Q ↔ G d 80 96 [some (.ref x)] (.ref x :: st) σ Q := gs_go f_80_95 rfl
theorem f_80_96 : ft 80 96 = some (191, .iconst 2, []) := rfl
theorem s_80_96 {d : Nat} {σ : xS} {st : List Value} {Q : xR → xS → Prop} {l0 : Option Value} : G d 80 96 [l0] st σ Q ↔ G d 80 97 [l0] (.int (2) :: st) σ Q := gs_go f_80_96 rfl
theorem f_80_97 : ft 80 97 = some (192, .putfield 22, [6, 3, 0, 80]) := rfl
theorem s_80_97 {d : Nat} {t : yT} {st : List Value} {Q : xR → xS → Prop} {l0 : Option Value} {a : Nat} {x : Int32} (ho : yisO 6 a) : G d 80 97 [l0] (.int x :: .ref a :: st) (yemb t) Q ↔ G d 80 98 [l0] st (yemb (t.s1 a 3 x)) Q := gs_putI (c := 6) (j := 3) f_80_97 (fun _ => rfl) rfl rfl ho
theorem f_80_98 : ft 80 98 = some (195, .aload_n 0, []) := rfl
theorem s_80_98 {d : Nat} {σ : xS} {st : List Value} {Q : xR → xS → Prop} {x : Nat} : G d 80 98 [some (.ref x)] st σ Q ↔ G d 80 99 [some (.ref x)] (.ref x :: st) σ Q := gs_go f_80_98 rfl
theorem f_80_99 : ft 80 99 = some (196, .getfield 28, [6, 5, 0, 82]) := rfl
theorem s_80_99 {d : Nat} {t : yT} {st : List Value} {Q : xR → xS → Prop} {l0 : Option Value} {a : Nat} (ho : yisO 6 a) : G d 80 99 [l0] (.ref a :: st) (yemb t) Q ↔ G d 80 100 [l0] (.int (t.A a 5) :: st) (yemb t) Q := gs_getf (c := 6) (j := 5) (q := .i) f_80_99 ho rfl
theorem f_80_100 : ft 80 100 = some (199, .aload_n 0, []) := rfl
theorem s_80_100 {d : Nat} {σ : xS} {st : List Value} {Q : xR → xS → Prop} {x : Nat} : G d 80 100 [some (.ref x)] st σ Q ↔ G d 80 101 [some (.ref x)] (.ref x :: st) σ Q := gs_go f_80_100 rfl
theorem f_80_101 : ft 80 101 = some (200, .getfield 19, [6, 2, 0, 79]) := rfl
theorem s_80_101 {d : Nat} {t : yT} {st : List Value} {Q : xR → xS → Prop} {l0 : Option Value} {a : Nat} (ho : yisO 6 a) : G d 80 101 [l0] (.ref a :: st) (yemb t) Q ↔ G d 80 102 [l0] (.int (t.A a 2) :: st) (yemb t) Q := gs_getf (c := 6) (j := 2) (q := .i) f_80_101 ho rfl
theorem f_80_102 : ft 80 102 = some (203, .if_icmp .ge 46, [126]) := rfl
theorem s_80_102 {d : Nat} {σ : xS} {st : List Value} {Q : xR → xS → Prop} {l0 : Option Value} {x y : Int32} : G d 80 102 [l0] (.int y :: .int x :: st) σ Q ↔ if y ≤ x then G d 80 126 [l0] st σ Q else G d 80 103 [l0] st σ Q := gs_if f_80_102 rfl
theorem f_80_103 : ft 80 103 = some (206, .aload_n 0, []) := rfl
theorem s_80_103 {d : Nat} {σ : xS} {st : List Value} {Q : xR → xS → Prop} {x : Nat} : G d 80 103 [some (.ref x)] st σ Q ↔ G d 80 104 [some (.ref x)] (.ref x :: st) σ Q := gs_go f_80_103 rfl
theorem f_80_104 : ft 80 104 = some (207, .getfield 9, [6, 0, 0, 77]) := rfl
theorem s_80_104 {d : Nat} {t : yT} {st : List Value} {Q : xR → xS → Prop} {l0 : Option Value} {a : Nat} (ho : yisO 6 a) : G d 80 104 [l0] (.ref a :: st) (yemb t) Q ↔ G d 80 105 [l0] (.ref 2 :: st) (yemb t) Q := gs_getf (c := 6) (j := 0) (q := .c 2) f_80_104 ho rfl
theorem f_80_105 : ft 80 105 = some (210, .aload_n 0, []) := rfl
theorem s_80_105 {d : Nat} {σ : xS} {st : List Value} {Q : xR → xS → Prop} {x : Nat} : G d 80 105 [some (.ref x)] st σ Q ↔ G d 80 106 [some (.ref x)] (.ref x :: st) σ Q := gs_go f_80_105 rfl
theorem f_80_106 : ft 80 106 = some (211, .getfield 28, [6, 5, 0, 82]) := rfl
theorem s_80_106 {d : Nat} {t : yT} {st : List Value} {Q : xR → xS → Prop} {l0 : Option Value} {a : Nat} (ho : yisO 6 a) : G d 80 106 [l0] (.ref a :: st) (yemb t) Q ↔ G d 80 107 [l0] (.int (t.A a 5) :: st) (yemb t) Q := gs_getf (c := 6) (j := 5) (q := .i) f_80_106 ho rfl
theorem f_80_107 : ft 80 107 = some (214, .baload, []) := rfl
theorem s_80_107 {d : Nat} {t : yT} {st : List Value} {Q : xR → xS → Prop} {l0 : Option Value} {a : Nat} {x : Int32} (ha : yA 1 a) : G d 80 107 [l0] (.int x :: .ref a :: st) (yemb t) Q ↔ yix x (yn a) ∧ G d 80 108 [l0] (.int (t.A a x.toNatClampNeg) :: st) (yemb t) Q := gs_bald f_80_107 ha (by decide)
theorem f_80_108 : ft 80 108 = some (215, .invokestatic 60, [82, 1, 1, 677]) := rfl
theorem s_80_108 {d : Nat} {σ : xS} {st : List Value} {Q : xR → xS → Prop} {l0 : Option Value} {a0 : Int32} : G (d + 1) 80 108 [l0] (.int a0 :: st) σ Q ↔ xcat st ≤ 8 ∧ Cl d 82 [.int a0] σ (Gk (d + 1) 80 108 [l0] st Q) := gs_call f_80_108 ((xinv_call (i := 108) (n := 677) (ls := [l0]) (kind := 1) (σ := σ) (by decide)).trans (xcall_st [.int a0] rfl (by decide) (show (1 : Nat) ≤ 1 by decide)))
theorem f_80_109 : ft 80 109 = some (218, .ifCond .eq 31, [126]) := rfl
theorem s_80_109 {d : Nat} {σ : xS} {st : List Value} {Q : xR → xS → Prop} {l0 : Option Value} {x : Int32} : G d 80 109 [l0] (.int x :: st) σ Q ↔ if x = 0 then G d 80 126 [l0] st σ Q else G d 80 110 [l0] st σ Q := gs_if f_80_109 rfl
theorem f_80_110 : ft 80 110 = some (221, .aload_n 0, []) := rfl
theorem s_80_110 {d : Nat} {σ : xS} {st : List Value} {Q : xR → xS → Prop} {x : Nat} : G d 80 110 [some (.ref x)] st σ Q ↔ G d 80 111 [some (.ref x)] (.ref x :: st) σ Q := gs_go f_80_110 rfl
theorem f_80_111 : ft 80 111 = some (222, .dup, []) := rfl
theorem s_80_111 {d : Nat} {σ : xS} {st : List Value} {Q : xR → xS → Prop} {l0 : Option Value} {x : Nat} : G d 80 111 [l0] (.ref x :: st) σ Q ↔ G d 80 112 [l0] (.ref x :: .ref x :: st) σ Q := gs_go f_80_111 rfl
theorem s_80_111i {d : Nat} {σ : xS} {st : List Value} {Q : xR → xS → Prop} {l0 : Option Value} {x : Int32} : G d 80 111 [l0] (.int x :: st) σ Q ↔ G d 80 112 [l0] (.int x :: .int x :: st) σ Q := gs_go f_80_111 rfl
theorem f_80_112 : ft 80 112 = some (223, .getfield 28, [6, 5, 0, 82]) := rfl
theorem s_80_112 {d : Nat} {t : yT} {st : List Value} {Q : xR → xS → Prop} {l0 : Option Value} {a : Nat} (ho : yisO 6 a) : G d 80 112 [l0] (.ref a :: st) (yemb t) Q ↔ G d 80 113 [l0] (.int (t.A a 5) :: st) (yemb t) Q := gs_getf (c := 6) (j := 5) (q := .i) f_80_112 ho rfl
theorem f_80_113 : ft 80 113 = some (226, .iconst 1, []) := rfl
theorem s_80_113 {d : Nat} {σ : xS} {st : List Value} {Q : xR → xS → Prop} {l0 : Option Value} : G d 80 113 [l0] st σ Q ↔ G d 80 114 [l0] (.int (1) :: st) σ Q := gs_go f_80_113 rfl
theorem f_80_114 : ft 80 114 = some (227, .iadd, []) := rfl
theorem s_80_114 {d : Nat} {σ : xS} {st : List Value} {Q : xR → xS → Prop} {l0 : Option Value} {x y : Int32} : G d 80 114 [l0] (.int y :: .int x :: st) σ Q ↔ G d 80 115 [l0] (.int (x + y) :: st) σ Q := gs_go f_80_114 rfl
theorem f_80_115 : ft 80 115 = some (228, .putfield 28, [6, 5, 0, 82]) := rfl
theorem s_80_115 {d : Nat} {t : yT} {st : List Value} {Q : xR → xS → Prop} {l0 : Option Value} {a : Nat} {x : Int32} (ho : yisO 6 a) : G d 80 115 [l0] (.int x :: .ref a :: st) (yemb t) Q ↔ G d 80 116 [l0] st (yemb (t.s1 a 5 x)) Q := gs_putI (c := 6) (j := 5) f_80_115 (fun _ => rfl) rfl rfl ho
theorem f_80_116 : ft 80 116 = some (231, .goto (-36), [98]) := rfl
theorem s_80_116 {d : Nat} {σ : xS} {st : List Value} {Q : xR → xS → Prop} {l0 : Option Value} : G d 80 116 [l0] st σ Q ↔ G d 80 98 [l0] st σ Q := gs_go f_80_116 rfl
theorem f_80_117 : ft 80 117 = some (234, .aload_n 0, []) := rfl
theorem s_80_117 {d : Nat} {σ : xS} {st : List Value} {Q : xR → xS → Prop} {x : Nat} : G d 80 117 [some (.ref x)] st σ Q ↔ G d 80 118 [some (.ref x)] (.ref x :: st) σ Q := gs_go f_80_117 rfl
theorem f_80_118 : ft 80 118 = some (235, .iconst 3, []) := rfl
theorem s_80_118 {d : Nat} {σ : xS} {st : List Value} {Q : xR → xS → Prop} {l0 : Option Value} : G d 80 118 [l0] st σ Q ↔ G d 80 119 [l0] (.int (3) :: st) σ Q := gs_go f_80_118 rfl
theorem f_80_119 : ft 80 119 = some (236, .putfield 22, [6, 3, 0, 80]) := rfl
theorem s_80_119 {d : Nat} {t : yT} {st : List Value} {Q : xR → xS → Prop} {l0 : Option Value} {a : Nat} {x : Int32} (ho : yisO 6 a) : G d 80 119 [l0] (.int x :: .ref a :: st) (yemb t) Q ↔ G d 80 120 [l0] st (yemb (t.s1 a 3 x)) Q := gs_putI (c := 6) (j := 3) f_80_119 (fun _ => rfl) rfl rfl ho
theorem f_80_120 : ft 80 120 = some (239, .aload_n 0, []) := rfl
theorem s_80_120 {d : Nat} {σ : xS} {st : List Value} {Q : xR → xS → Prop} {x : Nat} : G d 80 120 [some (.ref x)] st σ Q ↔ G d 80 121 [some (.ref x)] (.ref x :: st) σ Q := gs_go f_80_120 rfl
theorem f_80_121 : ft 80 121 = some (240, .dup, []) := rfl
theorem s_80_121 {d : Nat} {σ : xS} {st : List Value} {Q : xR → xS → Prop} {l0 : Option Value} {x : Nat} : G d 80 121 [l0] (.ref x :: st) σ Q ↔ G d 80 122 [l0] (.ref x :: .ref x :: st) σ Q := gs_go f_80_121 rfl
theorem s_80_121i {d : Nat} {σ : xS} {st : List Value} {Q : xR → xS → Prop} {l0 : Option Value} {x : Int32} : G d 80 121 [l0] (.int x :: st) σ Q ↔ G d 80 122 [l0] (.int x :: .int x :: st) σ Q := gs_go f_80_121 rfl
theorem f_80_122 : ft 80 122 = some (241, .getfield 28, [6, 5, 0, 82]) := rfl
theorem s_80_122 {d : Nat} {t : yT} {st : List Value} {Q : xR → xS → Prop} {l0 : Option Value} {a : Nat} (ho : yisO 6 a) : G d 80 122 [l0] (.ref a :: st) (yemb t) Q ↔ G d 80 123 [l0] (.int (t.A a 5) :: st) (yemb t) Q := gs_getf (c := 6) (j := 5) (q := .i) f_80_122 ho rfl
theorem f_80_123 : ft 80 123 = some (244, .iconst 1, []) := rfl
theorem s_80_123 {d : Nat} {σ : xS} {st : List Value} {Q : xR → xS → Prop} {l0 : Option Value} : G d 80 123 [l0] st σ Q ↔ G d 80 124 [l0] (.int (1) :: st) σ Q := gs_go f_80_123 rfl
theorem f_80_124 : ft 80 124 = some (245, .iadd, []) := rfl
theorem s_80_124 {d : Nat} {σ : xS} {st : List Value} {Q : xR → xS → Prop} {l0 : Option Value} {x y : Int32} : G d 80 124 [l0] (.int y :: .int x :: st) σ Q ↔ G d 80 125 [l0] (.int (x + y) :: st) σ Q := gs_go f_80_124 rfl
theorem f_80_125 : ft 80 125 = some (246, .putfield 28, [6, 5, 0, 82]) := rfl
theorem s_80_125 {d : Nat} {t : yT} {st : List Value} {Q : xR → xS → Prop} {l0 : Option Value} {a : Nat} {x : Int32} (ho : yisO 6 a) : G d 80 125 [l0] (.int x :: .ref a :: st) (yemb t) Q ↔ G d 80 126 [l0] st (yemb (t.s1 a 5 x)) Q := gs_putI (c := 6) (j := 5) f_80_125 (fun _ => rfl) rfl rfl ho
theorem f_80_126 : ft 80 126 = some (249, .return_, []) := rfl
theorem s_80_126 {d : Nat} {σ : xS} {ls : xL} {Q : xR → xS → Prop} : G d 80 126 ls [] σ Q ↔ Q (.inl none) σ := gs_ret f_80_126 rfl
theorem f_81_0 : ft 81 0 = some (0, .iload_n 0, []) := rfl
theorem s_81_0 {d : Nat} {σ : xS} {st : List Value} {Q : xR → xS → Prop} {x : Int32} : G d 81 0 [some (.int x)] st σ Q ↔ G d 81 1 [some (.int x)] (.int x :: st) σ Q := gs_go f_81_0 rfl
theorem f_81_1 : ft 81 1 = some (1, .bipush 48, []) := rfl
theorem s_81_1 {d : Nat} {σ : xS} {st : List Value} {Q : xR → xS → Prop} {l0 : Option Value} : G d 81 1 [l0] st σ Q ↔ G d 81 2 [l0] (.int (48) :: st) σ Q := gs_go f_81_1 rfl
theorem f_81_2 : ft 81 2 = some (3, .if_icmp .lt 13, [8]) := rfl
theorem s_81_2 {d : Nat} {σ : xS} {st : List Value} {Q : xR → xS → Prop} {l0 : Option Value} {x y : Int32} : G d 81 2 [l0] (.int y :: .int x :: st) σ Q ↔ if x < y then G d 81 8 [l0] st σ Q else G d 81 3 [l0] st σ Q := gs_if f_81_2 rfl
theorem f_81_3 : ft 81 3 = some (6, .iload_n 0, []) := rfl
theorem s_81_3 {d : Nat} {σ : xS} {st : List Value} {Q : xR → xS → Prop} {x : Int32} : G d 81 3 [some (.int x)] st σ Q ↔ G d 81 4 [some (.int x)] (.int x :: st) σ Q := gs_go f_81_3 rfl
theorem f_81_4 : ft 81 4 = some (7, .bipush 57, []) := rfl
theorem s_81_4 {d : Nat} {σ : xS} {st : List Value} {Q : xR → xS → Prop} {l0 : Option Value} : G d 81 4 [l0] st σ Q ↔ G d 81 5 [l0] (.int (57) :: st) σ Q := gs_go f_81_4 rfl
theorem f_81_5 : ft 81 5 = some (9, .if_icmp .gt 7, [8]) := rfl
theorem s_81_5 {d : Nat} {σ : xS} {st : List Value} {Q : xR → xS → Prop} {l0 : Option Value} {x y : Int32} : G d 81 5 [l0] (.int y :: .int x :: st) σ Q ↔ if y < x then G d 81 8 [l0] st σ Q else G d 81 6 [l0] st σ Q := gs_if f_81_5 rfl
theorem f_81_6 : ft 81 6 = some (12, .iconst 1, []) := rfl
theorem s_81_6 {d : Nat} {σ : xS} {st : List Value} {Q : xR → xS → Prop} {l0 : Option Value} : G d 81 6 [l0] st σ Q ↔ G d 81 7 [l0] (.int (1) :: st) σ Q := gs_go f_81_6 rfl
theorem f_81_7 : ft 81 7 = some (13, .goto 4, [9]) := rfl
theorem s_81_7 {d : Nat} {σ : xS} {st : List Value} {Q : xR → xS → Prop} {l0 : Option Value} : G d 81 7 [l0] st σ Q ↔ G d 81 9 [l0] st σ Q := gs_go f_81_7 rfl
theorem f_81_8 : ft 81 8 = some (16, .iconst 0, []) := rfl
theorem s_81_8 {d : Nat} {σ : xS} {st : List Value} {Q : xR → xS → Prop} {l0 : Option Value} : G d 81 8 [l0] st σ Q ↔ G d 81 9 [l0] (.int (0) :: st) σ Q := gs_go f_81_8 rfl
theorem f_81_9 : ft 81 9 = some (17, .ireturn, []) := rfl
theorem s_81_9 {d : Nat} {σ : xS} {ls : xL} {Q : xR → xS → Prop} {x : Int32} : G d 81 9 ls [.int x] σ Q ↔ ybo x ∧ Q (.inl (some (.int x))) σ := gs_retb f_81_9 rfl
theorem f_82_0 : ft 82 0 = some (0, .iload_n 0, []) := rfl
theorem s_82_0 {d : Nat} {σ : xS} {st : List Value} {Q : xR → xS → Prop} {x : Int32} : G d 82 0 [some (.int x)] st σ Q ↔ G d 82 1 [some (.int x)] (.int x :: st) σ Q := gs_go f_82_0 rfl
theorem f_82_1 : ft 82 1 = some (1, .bipush 97, []) := rfl
theorem s_82_1 {d : Nat} {σ : xS} {st : List Value} {Q : xR → xS → Prop} {l0 : Option Value} : G d 82 1 [l0] st σ Q ↔ G d 82 2 [l0] (.int (97) :: st) σ Q := gs_go f_82_1 rfl
theorem f_82_2 : ft 82 2 = some (3, .if_icmp .lt 13, [8]) := rfl
theorem s_82_2 {d : Nat} {σ : xS} {st : List Value} {Q : xR → xS → Prop} {l0 : Option Value} {x y : Int32} : G d 82 2 [l0] (.int y :: .int x :: st) σ Q ↔ if x < y then G d 82 8 [l0] st σ Q else G d 82 3 [l0] st σ Q := gs_if f_82_2 rfl
theorem f_82_3 : ft 82 3 = some (6, .iload_n 0, []) := rfl
theorem s_82_3 {d : Nat} {σ : xS} {st : List Value} {Q : xR → xS → Prop} {x : Int32} : G d 82 3 [some (.int x)] st σ Q ↔ G d 82 4 [some (.int x)] (.int x :: st) σ Q := gs_go f_82_3 rfl
theorem f_82_4 : ft 82 4 = some (7, .bipush 122, []) := rfl
theorem s_82_4 {d : Nat} {σ : xS} {st : List Value} {Q : xR → xS → Prop} {l0 : Option Value} : G d 82 4 [l0] st σ Q ↔ G d 82 5 [l0] (.int (122) :: st) σ Q := gs_go f_82_4 rfl
theorem f_82_5 : ft 82 5 = some (9, .if_icmp .gt 7, [8]) := rfl
theorem s_82_5 {d : Nat} {σ : xS} {st : List Value} {Q : xR → xS → Prop} {l0 : Option Value} {x y : Int32} : G d 82 5 [l0] (.int y :: .int x :: st) σ Q ↔ if y < x then G d 82 8 [l0] st σ Q else G d 82 6 [l0] st σ Q := gs_if f_82_5 rfl
theorem f_82_6 : ft 82 6 = some (12, .iconst 1, []) := rfl
theorem s_82_6 {d : Nat} {σ : xS} {st : List Value} {Q : xR → xS → Prop} {l0 : Option Value} : G d 82 6 [l0] st σ Q ↔ G d 82 7 [l0] (.int (1) :: st) σ Q := gs_go f_82_6 rfl
theorem f_82_7 : ft 82 7 = some (13, .goto 4, [9]) := rfl
theorem s_82_7 {d : Nat} {σ : xS} {st : List Value} {Q : xR → xS → Prop} {l0 : Option Value} : G d 82 7 [l0] st σ Q ↔ G d 82 9 [l0] st σ Q := gs_go f_82_7 rfl
theorem f_82_8 : ft 82 8 = some (16, .iconst 0, []) := rfl
theorem s_82_8 {d : Nat} {σ : xS} {st : List Value} {Q : xR → xS → Prop} {l0 : Option Value} : G d 82 8 [l0] st σ Q ↔ G d 82 9 [l0] (.int (0) :: st) σ Q := gs_go f_82_8 rfl
theorem f_82_9 : ft 82 9 = some (17, .ireturn, []) := rfl
theorem s_82_9 {d : Nat} {σ : xS} {ls : xL} {Q : xR → xS → Prop} {x : Int32} : G d 82 9 ls [.int x] σ Q ↔ ybo x ∧ Q (.inl (some (.int x))) σ := gs_retb f_82_9 rfl
theorem f_83_0 : ft 83 0 = some (0, .aload_n 0, []) := rfl
theorem s_83_0 {d : Nat} {σ : xS} {st : List Value} {Q : xR → xS → Prop} {x : Nat} : G d 83 0 [some (.ref x)] st σ Q ↔ G d 83 1 [some (.ref x)] (.ref x :: st) σ Q := gs_go f_83_0 rfl
theorem f_83_1 : ft 83 1 = some (1, .getfield 22, [6, 3, 0, 80]) := rfl
theorem s_83_1 {d : Nat} {t : yT} {st : List Value} {Q : xR → xS → Prop} {l0 : Option Value} {a : Nat} (ho : yisO 6 a) : G d 83 1 [l0] (.ref a :: st) (yemb t) Q ↔ G d 83 2 [l0] (.int (t.A a 3) :: st) (yemb t) Q := gs_getf (c := 6) (j := 3) (q := .i) f_83_1 ho rfl
theorem f_83_2 : ft 83 2 = some (4, .ifCond .ne 7, [5]) := rfl
theorem s_83_2 {d : Nat} {σ : xS} {st : List Value} {Q : xR → xS → Prop} {l0 : Option Value} {x : Int32} : G d 83 2 [l0] (.int x :: st) σ Q ↔ if x ≠ 0 then G d 83 5 [l0] st σ Q else G d 83 3 [l0] st σ Q := gs_if f_83_2 rfl
theorem f_83_3 : ft 83 3 = some (7, .iconst 1, []) := rfl
theorem s_83_3 {d : Nat} {σ : xS} {st : List Value} {Q : xR → xS → Prop} {l0 : Option Value} : G d 83 3 [l0] st σ Q ↔ G d 83 4 [l0] (.int (1) :: st) σ Q := gs_go f_83_3 rfl
theorem f_83_4 : ft 83 4 = some (8, .goto 4, [6]) := rfl
theorem s_83_4 {d : Nat} {σ : xS} {st : List Value} {Q : xR → xS → Prop} {l0 : Option Value} : G d 83 4 [l0] st σ Q ↔ G d 83 6 [l0] st σ Q := gs_go f_83_4 rfl
theorem f_83_5 : ft 83 5 = some (11, .iconst 0, []) := rfl
theorem s_83_5 {d : Nat} {σ : xS} {st : List Value} {Q : xR → xS → Prop} {l0 : Option Value} : G d 83 5 [l0] st σ Q ↔ G d 83 6 [l0] (.int (0) :: st) σ Q := gs_go f_83_5 rfl
theorem f_83_6 : ft 83 6 = some (12, .ireturn, []) := rfl
theorem s_83_6 {d : Nat} {σ : xS} {ls : xL} {Q : xR → xS → Prop} {x : Int32} : G d 83 6 ls [.int x] σ Q ↔ ybo x ∧ Q (.inl (some (.int x))) σ := gs_retb f_83_6 rfl
theorem f_84_0 : ft 84 0 = some (0, .aload_n 0, []) := rfl
theorem s_84_0 {d : Nat} {σ : xS} {st : List Value} {Q : xR → xS → Prop} {l1 : Option Value} {x : Nat} : G d 84 0 [some (.ref x), l1] st σ Q ↔ G d 84 1 [some (.ref x), l1] (.ref x :: st) σ Q := gs_go f_84_0 rfl
theorem f_84_1 : ft 84 1 = some (1, .getfield 22, [6, 3, 0, 80]) := rfl
theorem s_84_1 {d : Nat} {t : yT} {st : List Value} {Q : xR → xS → Prop} {l0 l1 : Option Value} {a : Nat} (ho : yisO 6 a) : G d 84 1 [l0, l1] (.ref a :: st) (yemb t) Q ↔ G d 84 2 [l0, l1] (.int (t.A a 3) :: st) (yemb t) Q := gs_getf (c := 6) (j := 3) (q := .i) f_84_1 ho rfl
theorem f_84_2 : ft 84 2 = some (4, .iconst 3, []) := rfl
theorem s_84_2 {d : Nat} {σ : xS} {st : List Value} {Q : xR → xS → Prop} {l0 l1 : Option Value} : G d 84 2 [l0, l1] st σ Q ↔ G d 84 3 [l0, l1] (.int (3) :: st) σ Q := gs_go f_84_2 rfl
theorem f_84_3 : ft 84 3 = some (5, .if_icmp .ne 31, [18]) := rfl
theorem s_84_3 {d : Nat} {σ : xS} {st : List Value} {Q : xR → xS → Prop} {l0 l1 : Option Value} {x y : Int32} : G d 84 3 [l0, l1] (.int y :: .int x :: st) σ Q ↔ if x ≠ y then G d 84 18 [l0, l1] st σ Q else G d 84 4 [l0, l1] st σ Q := gs_if f_84_3 rfl
theorem f_84_4 : ft 84 4 = some (8, .aload_n 0, []) := rfl
theorem s_84_4 {d : Nat} {σ : xS} {st : List Value} {Q : xR → xS → Prop} {l1 : Option Value} {x : Nat} : G d 84 4 [some (.ref x), l1] st σ Q ↔ G d 84 5 [some (.ref x), l1] (.ref x :: st) σ Q := gs_go f_84_4 rfl
theorem f_84_5 : ft 84 5 = some (9, .getfield 25, [6, 4, 0, 81]) := rfl
theorem s_84_5 {d : Nat} {t : yT} {st : List Value} {Q : xR → xS → Prop} {l0 l1 : Option Value} {a : Nat} (ho : yisO 6 a) : G d 84 5 [l0, l1] (.ref a :: st) (yemb t) Q ↔ G d 84 6 [l0, l1] (.int (t.A a 4) :: st) (yemb t) Q := gs_getf (c := 6) (j := 4) (q := .i) f_84_5 ho rfl
theorem f_84_6 : ft 84 6 = some (12, .aload_n 0, []) := rfl
theorem s_84_6 {d : Nat} {σ : xS} {st : List Value} {Q : xR → xS → Prop} {l1 : Option Value} {x : Nat} : G d 84 6 [some (.ref x), l1] st σ Q ↔ G d 84 7 [some (.ref x), l1] (.ref x :: st) σ Q := gs_go f_84_6 rfl
theorem f_84_7 : ft 84 7 = some (13, .getfield 19, [6, 2, 0, 79]) := rfl
theorem s_84_7 {d : Nat} {t : yT} {st : List Value} {Q : xR → xS → Prop} {l0 l1 : Option Value} {a : Nat} (ho : yisO 6 a) : G d 84 7 [l0, l1] (.ref a :: st) (yemb t) Q ↔ G d 84 8 [l0, l1] (.int (t.A a 2) :: st) (yemb t) Q := gs_getf (c := 6) (j := 2) (q := .i) f_84_7 ho rfl
theorem f_84_8 : ft 84 8 = some (16, .if_icmp .ge 20, [18]) := rfl
theorem s_84_8 {d : Nat} {σ : xS} {st : List Value} {Q : xR → xS → Prop} {l0 l1 : Option Value} {x y : Int32} : G d 84 8 [l0, l1] (.int y :: .int x :: st) σ Q ↔ if y ≤ x then G d 84 18 [l0, l1] st σ Q else G d 84 9 [l0, l1] st σ Q := gs_if f_84_8 rfl
theorem f_84_9 : ft 84 9 = some (19, .aload_n 0, []) := rfl
theorem s_84_9 {d : Nat} {σ : xS} {st : List Value} {Q : xR → xS → Prop} {l1 : Option Value} {x : Nat} : G d 84 9 [some (.ref x), l1] st σ Q ↔ G d 84 10 [some (.ref x), l1] (.ref x :: st) σ Q := gs_go f_84_9 rfl
theorem f_84_10 : ft 84 10 = some (20, .getfield 9, [6, 0, 0, 77]) := rfl
theorem s_84_10 {d : Nat} {t : yT} {st : List Value} {Q : xR → xS → Prop} {l0 l1 : Option Value} {a : Nat} (ho : yisO 6 a) : G d 84 10 [l0, l1] (.ref a :: st) (yemb t) Q ↔ G d 84 11 [l0, l1] (.ref 2 :: st) (yemb t) Q := gs_getf (c := 6) (j := 0) (q := .c 2) f_84_10 ho rfl
theorem f_84_11 : ft 84 11 = some (23, .aload_n 0, []) := rfl
theorem s_84_11 {d : Nat} {σ : xS} {st : List Value} {Q : xR → xS → Prop} {l1 : Option Value} {x : Nat} : G d 84 11 [some (.ref x), l1] st σ Q ↔ G d 84 12 [some (.ref x), l1] (.ref x :: st) σ Q := gs_go f_84_11 rfl
theorem f_84_12 : ft 84 12 = some (24, .getfield 25, [6, 4, 0, 81]) := rfl
theorem s_84_12 {d : Nat} {t : yT} {st : List Value} {Q : xR → xS → Prop} {l0 l1 : Option Value} {a : Nat} (ho : yisO 6 a) : G d 84 12 [l0, l1] (.ref a :: st) (yemb t) Q ↔ G d 84 13 [l0, l1] (.int (t.A a 4) :: st) (yemb t) Q := gs_getf (c := 6) (j := 4) (q := .i) f_84_12 ho rfl
theorem f_84_13 : ft 84 13 = some (27, .baload, []) := rfl
theorem s_84_13 {d : Nat} {t : yT} {st : List Value} {Q : xR → xS → Prop} {l0 l1 : Option Value} {a : Nat} {x : Int32} (ha : yA 1 a) : G d 84 13 [l0, l1] (.int x :: .ref a :: st) (yemb t) Q ↔ yix x (yn a) ∧ G d 84 14 [l0, l1] (.int (t.A a x.toNatClampNeg) :: st) (yemb t) Q := gs_bald f_84_13 ha (by decide)
theorem f_84_14 : ft 84 14 = some (28, .iload_n 1, []) := rfl
theorem s_84_14 {d : Nat} {σ : xS} {st : List Value} {Q : xR → xS → Prop} {l0 : Option Value} {x : Int32} : G d 84 14 [l0, some (.int x)] st σ Q ↔ G d 84 15 [l0, some (.int x)] (.int x :: st) σ Q := gs_go f_84_14 rfl
theorem f_84_15 : ft 84 15 = some (29, .if_icmp .ne 7, [18]) := rfl
theorem s_84_15 {d : Nat} {σ : xS} {st : List Value} {Q : xR → xS → Prop} {l0 l1 : Option Value} {x y : Int32} : G d 84 15 [l0, l1] (.int y :: .int x :: st) σ Q ↔ if x ≠ y then G d 84 18 [l0, l1] st σ Q else G d 84 16 [l0, l1] st σ Q := gs_if f_84_15 rfl
theorem f_84_16 : ft 84 16 = some (32, .iconst 1, []) := rfl
theorem s_84_16 {d : Nat} {σ : xS} {st : List Value} {Q : xR → xS → Prop} {l0 l1 : Option Value} : G d 84 16 [l0, l1] st σ Q ↔ G d 84 17 [l0, l1] (.int (1) :: st) σ Q := gs_go f_84_16 rfl
theorem f_84_17 : ft 84 17 = some (33, .goto 4, [19]) := rfl
theorem s_84_17 {d : Nat} {σ : xS} {st : List Value} {Q : xR → xS → Prop} {l0 l1 : Option Value} : G d 84 17 [l0, l1] st σ Q ↔ G d 84 19 [l0, l1] st σ Q := gs_go f_84_17 rfl
theorem f_84_18 : ft 84 18 = some (36, .iconst 0, []) := rfl
theorem s_84_18 {d : Nat} {σ : xS} {st : List Value} {Q : xR → xS → Prop} {l0 l1 : Option Value} : G d 84 18 [l0, l1] st σ Q ↔ G d 84 19 [l0, l1] (.int (0) :: st) σ Q := gs_go f_84_18 rfl
theorem f_84_19 : ft 84 19 = some (37, .ireturn, []) := rfl
theorem s_84_19 {d : Nat} {σ : xS} {ls : xL} {Q : xR → xS → Prop} {x : Int32} : G d 84 19 ls [.int x] σ Q ↔ ybo x ∧ Q (.inl (some (.int x))) σ := gs_retb f_84_19 rfl
theorem f_85_0 : ft 85 0 = some (0, .aload_n 0, []) := rfl
theorem s_85_0 {d : Nat} {σ : xS} {st : List Value} {Q : xR → xS → Prop} {l1 l2 : Option Value} {x : Nat} : G d 85 0 [some (.ref x), l1, l2] st σ Q ↔ G d 85 1 [some (.ref x), l1, l2] (.ref x :: st) σ Q := gs_go f_85_0 rfl
theorem f_85_1 : ft 85 1 = some (1, .getfield 22, [6, 3, 0, 80]) := rfl
theorem s_85_1 {d : Nat} {t : yT} {st : List Value} {Q : xR → xS → Prop} {l0 l1 l2 : Option Value} {a : Nat} (ho : yisO 6 a) : G d 85 1 [l0, l1, l2] (.ref a :: st) (yemb t) Q ↔ G d 85 2 [l0, l1, l2] (.int (t.A a 3) :: st) (yemb t) Q := gs_getf (c := 6) (j := 3) (q := .i) f_85_1 ho rfl
theorem f_85_2 : ft 85 2 = some (4, .iconst 2, []) := rfl
theorem s_85_2 {d : Nat} {σ : xS} {st : List Value} {Q : xR → xS → Prop} {l0 l1 l2 : Option Value} : G d 85 2 [l0, l1, l2] st σ Q ↔ G d 85 3 [l0, l1, l2] (.int (2) :: st) σ Q := gs_go f_85_2 rfl
theorem f_85_3 : ft 85 3 = some (5, .if_icmp .ne 19, [12]) := rfl
theorem s_85_3 {d : Nat} {σ : xS} {st : List Value} {Q : xR → xS → Prop} {l0 l1 l2 : Option Value} {x y : Int32} : G d 85 3 [l0, l1, l2] (.int y :: .int x :: st) σ Q ↔ if x ≠ y then G d 85 12 [l0, l1, l2] st σ Q else G d 85 4 [l0, l1, l2] st σ Q := gs_if f_85_3 rfl
theorem f_85_4 : ft 85 4 = some (8, .aload_n 0, []) := rfl
theorem s_85_4 {d : Nat} {σ : xS} {st : List Value} {Q : xR → xS → Prop} {l1 l2 : Option Value} {x : Nat} : G d 85 4 [some (.ref x), l1, l2] st σ Q ↔ G d 85 5 [some (.ref x), l1, l2] (.ref x :: st) σ Q := gs_go f_85_4 rfl
theorem f_85_5 : ft 85 5 = some (9, .getfield 28, [6, 5, 0, 82]) := rfl
theorem s_85_5 {d : Nat} {t : yT} {st : List Value} {Q : xR → xS → Prop} {l0 l1 l2 : Option Value} {a : Nat} (ho : yisO 6 a) : G d 85 5 [l0, l1, l2] (.ref a :: st) (yemb t) Q ↔ G d 85 6 [l0, l1, l2] (.int (t.A a 5) :: st) (yemb t) Q := gs_getf (c := 6) (j := 5) (q := .i) f_85_5 ho rfl
theorem f_85_6 : ft 85 6 = some (12, .aload_n 0, []) := rfl
theorem s_85_6 {d : Nat} {σ : xS} {st : List Value} {Q : xR → xS → Prop} {l1 l2 : Option Value} {x : Nat} : G d 85 6 [some (.ref x), l1, l2] st σ Q ↔ G d 85 7 [some (.ref x), l1, l2] (.ref x :: st) σ Q := gs_go f_85_6 rfl
theorem f_85_7 : ft 85 7 = some (13, .getfield 25, [6, 4, 0, 81]) := rfl
theorem s_85_7 {d : Nat} {t : yT} {st : List Value} {Q : xR → xS → Prop} {l0 l1 l2 : Option Value} {a : Nat} (ho : yisO 6 a) : G d 85 7 [l0, l1, l2] (.ref a :: st) (yemb t) Q ↔ G d 85 8 [l0, l1, l2] (.int (t.A a 4) :: st) (yemb t) Q := gs_getf (c := 6) (j := 4) (q := .i) f_85_7 ho rfl
theorem f_85_8 : ft 85 8 = some (16, .isub, []) := rfl
theorem s_85_8 {d : Nat} {σ : xS} {st : List Value} {Q : xR → xS → Prop} {l0 l1 l2 : Option Value} {x y : Int32} : G d 85 8 [l0, l1, l2] (.int y :: .int x :: st) σ Q ↔ G d 85 9 [l0, l1, l2] (.int (x - y) :: st) σ Q := gs_go f_85_8 rfl
theorem f_85_9 : ft 85 9 = some (17, .aload_n 1, []) := rfl
theorem s_85_9 {d : Nat} {σ : xS} {st : List Value} {Q : xR → xS → Prop} {l0 l2 : Option Value} {x : Nat} : G d 85 9 [l0, some (.ref x), l2] st σ Q ↔ G d 85 10 [l0, some (.ref x), l2] (.ref x :: st) σ Q := gs_go f_85_9 rfl
theorem f_85_10 : ft 85 10 = some (18, .invokevirtual 63, [217, 1, 0, 701]) := rfl
theorem f_85_11 : ft 85 11 = some (21, .if_icmp .eq 5, [14]) := rfl
theorem s_85_11 {d : Nat} {σ : xS} {st : List Value} {Q : xR → xS → Prop} {l0 l1 l2 : Option Value} {x y : Int32} : G d 85 11 [l0, l1, l2] (.int y :: .int x :: st) σ Q ↔ if x = y then G d 85 14 [l0, l1, l2] st σ Q else G d 85 12 [l0, l1, l2] st σ Q := gs_if f_85_11 rfl
theorem f_85_12 : ft 85 12 = some (24, .iconst 0, []) := rfl
theorem s_85_12 {d : Nat} {σ : xS} {st : List Value} {Q : xR → xS → Prop} {l0 l1 l2 : Option Value} : G d 85 12 [l0, l1, l2] st σ Q ↔ G d 85 13 [l0, l1, l2] (.int (0) :: st) σ Q := gs_go f_85_12 rfl
theorem f_85_13 : ft 85 13 = some (25, .ireturn, []) := rfl
theorem s_85_13 {d : Nat} {σ : xS} {ls : xL} {Q : xR → xS → Prop} {x : Int32} : G d 85 13 ls [.int x] σ Q ↔ ybo x ∧ Q (.inl (some (.int x))) σ := gs_retb f_85_13 rfl
theorem f_85_14 : ft 85 14 = some (26, .iconst 0, []) := rfl
theorem s_85_14 {d : Nat} {σ : xS} {st : List Value} {Q : xR → xS → Prop} {l0 l1 l2 : Option Value} : G d 85 14 [l0, l1, l2] st σ Q ↔ G d 85 15 [l0, l1, l2] (.int (0) :: st) σ Q := gs_go f_85_14 rfl
theorem f_85_15 : ft 85 15 = some (27, .istore_n 2, []) := rfl
theorem s_85_15 {d : Nat} {σ : xS} {st : List Value} {Q : xR → xS → Prop} {l0 l1 l2 : Option Value} {x : Int32} : G d 85 15 [l0, l1, l2] (.int x :: st) σ Q ↔ G d 85 16 [l0, ykl l1, some (.int x)] st σ Q := by
  cases l1 with
  | none => exact gs_go f_85_15 rfl
  | some v => cases v <;> exact gs_go f_85_15 rfl
theorem f_85_16 : ft 85 16 = some (28, .iload_n 2, []) := rfl
theorem s_85_16 {d : Nat} {σ : xS} {st : List Value} {Q : xR → xS → Prop} {l0 l1 : Option Value} {x : Int32} : G d 85 16 [l0, l1, some (.int x)] st σ Q ↔ G d 85 17 [l0, l1, some (.int x)] (.int x :: st) σ Q := gs_go f_85_16 rfl
theorem f_85_17 : ft 85 17 = some (29, .aload_n 1, []) := rfl
theorem s_85_17 {d : Nat} {σ : xS} {st : List Value} {Q : xR → xS → Prop} {l0 l2 : Option Value} {x : Nat} : G d 85 17 [l0, some (.ref x), l2] st σ Q ↔ G d 85 18 [l0, some (.ref x), l2] (.ref x :: st) σ Q := gs_go f_85_17 rfl
theorem f_85_18 : ft 85 18 = some (30, .invokevirtual 63, [217, 1, 0, 701]) := rfl
theorem f_85_19 : ft 85 19 = some (33, .if_icmp .ge 30, [35]) := rfl
theorem s_85_19 {d : Nat} {σ : xS} {st : List Value} {Q : xR → xS → Prop} {l0 l1 l2 : Option Value} {x y : Int32} : G d 85 19 [l0, l1, l2] (.int y :: .int x :: st) σ Q ↔ if y ≤ x then G d 85 35 [l0, l1, l2] st σ Q else G d 85 20 [l0, l1, l2] st σ Q := gs_if f_85_19 rfl
theorem f_85_20 : ft 85 20 = some (36, .aload_n 0, []) := rfl
theorem s_85_20 {d : Nat} {σ : xS} {st : List Value} {Q : xR → xS → Prop} {l1 l2 : Option Value} {x : Nat} : G d 85 20 [some (.ref x), l1, l2] st σ Q ↔ G d 85 21 [some (.ref x), l1, l2] (.ref x :: st) σ Q := gs_go f_85_20 rfl
theorem f_85_21 : ft 85 21 = some (37, .getfield 9, [6, 0, 0, 77]) := rfl
theorem s_85_21 {d : Nat} {t : yT} {st : List Value} {Q : xR → xS → Prop} {l0 l1 l2 : Option Value} {a : Nat} (ho : yisO 6 a) : G d 85 21 [l0, l1, l2] (.ref a :: st) (yemb t) Q ↔ G d 85 22 [l0, l1, l2] (.ref 2 :: st) (yemb t) Q := gs_getf (c := 6) (j := 0) (q := .c 2) f_85_21 ho rfl
theorem f_85_22 : ft 85 22 = some (40, .aload_n 0, []) := rfl
theorem s_85_22 {d : Nat} {σ : xS} {st : List Value} {Q : xR → xS → Prop} {l1 l2 : Option Value} {x : Nat} : G d 85 22 [some (.ref x), l1, l2] st σ Q ↔ G d 85 23 [some (.ref x), l1, l2] (.ref x :: st) σ Q := gs_go f_85_22 rfl
theorem f_85_23 : ft 85 23 = some (41, .getfield 25, [6, 4, 0, 81]) := rfl
theorem s_85_23 {d : Nat} {t : yT} {st : List Value} {Q : xR → xS → Prop} {l0 l1 l2 : Option Value} {a : Nat} (ho : yisO 6 a) : G d 85 23 [l0, l1, l2] (.ref a :: st) (yemb t) Q ↔ G d 85 24 [l0, l1, l2] (.int (t.A a 4) :: st) (yemb t) Q := gs_getf (c := 6) (j := 4) (q := .i) f_85_23 ho rfl
theorem f_85_24 : ft 85 24 = some (44, .iload_n 2, []) := rfl
theorem s_85_24 {d : Nat} {σ : xS} {st : List Value} {Q : xR → xS → Prop} {l0 l1 : Option Value} {x : Int32} : G d 85 24 [l0, l1, some (.int x)] st σ Q ↔ G d 85 25 [l0, l1, some (.int x)] (.int x :: st) σ Q := gs_go f_85_24 rfl
theorem f_85_25 : ft 85 25 = some (45, .iadd, []) := rfl
theorem s_85_25 {d : Nat} {σ : xS} {st : List Value} {Q : xR → xS → Prop} {l0 l1 l2 : Option Value} {x y : Int32} : G d 85 25 [l0, l1, l2] (.int y :: .int x :: st) σ Q ↔ G d 85 26 [l0, l1, l2] (.int (x + y) :: st) σ Q := gs_go f_85_25 rfl
theorem f_85_26 : ft 85 26 = some (46, .baload, []) := rfl
theorem s_85_26 {d : Nat} {t : yT} {st : List Value} {Q : xR → xS → Prop} {l0 l1 l2 : Option Value} {a : Nat} {x : Int32} (ha : yA 1 a) : G d 85 26 [l0, l1, l2] (.int x :: .ref a :: st) (yemb t) Q ↔ yix x (yn a) ∧ G d 85 27 [l0, l1, l2] (.int (t.A a x.toNatClampNeg) :: st) (yemb t) Q := gs_bald f_85_26 ha (by decide)
theorem f_85_27 : ft 85 27 = some (47, .aload_n 1, []) := rfl
theorem s_85_27 {d : Nat} {σ : xS} {st : List Value} {Q : xR → xS → Prop} {l0 l2 : Option Value} {x : Nat} : G d 85 27 [l0, some (.ref x), l2] st σ Q ↔ G d 85 28 [l0, some (.ref x), l2] (.ref x :: st) σ Q := gs_go f_85_27 rfl
theorem f_85_28 : ft 85 28 = some (48, .iload_n 2, []) := rfl
theorem s_85_28 {d : Nat} {σ : xS} {st : List Value} {Q : xR → xS → Prop} {l0 l1 : Option Value} {x : Int32} : G d 85 28 [l0, l1, some (.int x)] st σ Q ↔ G d 85 29 [l0, l1, some (.int x)] (.int x :: st) σ Q := gs_go f_85_28 rfl
theorem f_85_29 : ft 85 29 = some (49, .invokevirtual 68, [218, 2, 0, 711]) := rfl
theorem f_85_30 : ft 85 30 = some (52, .if_icmp .eq 5, [33]) := rfl
theorem s_85_30 {d : Nat} {σ : xS} {st : List Value} {Q : xR → xS → Prop} {l0 l1 l2 : Option Value} {x y : Int32} : G d 85 30 [l0, l1, l2] (.int y :: .int x :: st) σ Q ↔ if x = y then G d 85 33 [l0, l1, l2] st σ Q else G d 85 31 [l0, l1, l2] st σ Q := gs_if f_85_30 rfl
theorem f_85_31 : ft 85 31 = some (55, .iconst 0, []) := rfl
theorem s_85_31 {d : Nat} {σ : xS} {st : List Value} {Q : xR → xS → Prop} {l0 l1 l2 : Option Value} : G d 85 31 [l0, l1, l2] st σ Q ↔ G d 85 32 [l0, l1, l2] (.int (0) :: st) σ Q := gs_go f_85_31 rfl
theorem f_85_32 : ft 85 32 = some (56, .ireturn, []) := rfl
theorem s_85_32 {d : Nat} {σ : xS} {ls : xL} {Q : xR → xS → Prop} {x : Int32} : G d 85 32 ls [.int x] σ Q ↔ ybo x ∧ Q (.inl (some (.int x))) σ := gs_retb f_85_32 rfl
theorem f_85_33 : ft 85 33 = some (57, .iinc 2 1, []) := rfl
theorem s_85_33 {d : Nat} {σ : xS} {st : List Value} {Q : xR → xS → Prop} {l0 l1 : Option Value} {x : Int32} : G d 85 33 [l0, l1, some (.int x)] st σ Q ↔ G d 85 34 [l0, ykl l1, some (.int (x + 1))] st σ Q := by
  cases l1 with
  | none => exact gs_go f_85_33 rfl
  | some v => cases v <;> exact gs_go f_85_33 rfl
theorem f_85_34 : ft 85 34 = some (60, .goto (-32), [16]) := rfl
theorem s_85_34 {d : Nat} {σ : xS} {st : List Value} {Q : xR → xS → Prop} {l0 l1 l2 : Option Value} : G d 85 34 [l0, l1, l2] st σ Q ↔ G d 85 16 [l0, l1, l2] st σ Q := gs_go f_85_34 rfl
theorem f_85_35 : ft 85 35 = some (63, .iconst 1, []) := rfl
theorem s_85_35 {d : Nat} {σ : xS} {st : List Value} {Q : xR → xS → Prop} {l0 l1 l2 : Option Value} : G d 85 35 [l0, l1, l2] st σ Q ↔ G d 85 36 [l0, l1, l2] (.int (1) :: st) σ Q := gs_go f_85_35 rfl
theorem f_85_36 : ft 85 36 = some (64, .ireturn, []) := rfl
theorem s_85_36 {d : Nat} {σ : xS} {ls : xL} {Q : xR → xS → Prop} {x : Int32} : G d 85 36 ls [.int x] σ Q ↔ ybo x ∧ Q (.inl (some (.int x))) σ := gs_retb f_85_36 rfl
theorem f_86_0 : ft 86 0 = some (0, .aload_n 0, []) := rfl
theorem s_86_0 {d : Nat} {σ : xS} {st : List Value} {Q : xR → xS → Prop} {x : Nat} : G d 86 0 [some (.ref x)] st σ Q ↔ G d 86 1 [some (.ref x)] (.ref x :: st) σ Q := gs_go f_86_0 rfl
theorem f_86_1 : ft 86 1 = some (1, .invokevirtual 72, [83, 1, 0, 878]) := rfl
theorem s_86_1 {d : Nat} {t : yT} {st : List Value} {Q : xR → xS → Prop} {l0 : Option Value} {a0 : Nat} (ho : yisO 6 a0) : G (d + 1) 86 1 [l0] (.ref a0 :: st) (yemb t) Q ↔ xcat st ≤ 8 ∧ Cl d 83 [.ref a0] (yemb t) (Gk (d + 1) 86 1 [l0] st Q) := gs_call f_86_1 ((xinv_call (i := 1) (n := 878) (ls := [l0]) (kind := 0) (σ := yemb t) (by decide)).trans (xcall_vi [.ref a0] rfl rfl (show (1 : Nat) ≤ 1 by decide) rfl ho))
theorem f_86_2 : ft 86 2 = some (4, .ifCond .ne 12, [7]) := rfl
theorem s_86_2 {d : Nat} {σ : xS} {st : List Value} {Q : xR → xS → Prop} {l0 : Option Value} {x : Int32} : G d 86 2 [l0] (.int x :: st) σ Q ↔ if x ≠ 0 then G d 86 7 [l0] st σ Q else G d 86 3 [l0] st σ Q := gs_if f_86_2 rfl
theorem f_86_3 : ft 86 3 = some (7, .aload_n 0, []) := rfl
theorem s_86_3 {d : Nat} {σ : xS} {st : List Value} {Q : xR → xS → Prop} {x : Nat} : G d 86 3 [some (.ref x)] st σ Q ↔ G d 86 4 [some (.ref x)] (.ref x :: st) σ Q := gs_go f_86_3 rfl
theorem f_86_4 : ft 86 4 = some (8, .bipush (-2), []) := rfl
theorem s_86_4 {d : Nat} {σ : xS} {st : List Value} {Q : xR → xS → Prop} {l0 : Option Value} : G d 86 4 [l0] st σ Q ↔ G d 86 5 [l0] (.int (-2) :: st) σ Q := gs_go f_86_4 rfl
theorem f_86_5 : ft 86 5 = some (10, .invokevirtual 76, [90, 2, 0, 749]) := rfl
theorem s_86_5 {d : Nat} {t : yT} {st : List Value} {Q : xR → xS → Prop} {l0 : Option Value} {a0 : Nat} {a1 : Int32} (ho : yisO 6 a0) : G (d + 1) 86 5 [l0] (.int a1 :: .ref a0 :: st) (yemb t) Q ↔ xcat st ≤ 8 ∧ Cl d 90 [.ref a0, .int a1] (yemb t) (Gk (d + 1) 86 5 [l0] st Q) := gs_call f_86_5 ((xinv_call (i := 5) (n := 749) (ls := [l0]) (kind := 0) (σ := yemb t) (by decide)).trans (xcall_vi [.int a1, .ref a0] rfl rfl (show (2 : Nat) ≤ 2 by decide) rfl ho))
theorem f_86_6 : ft 86 6 = some (13, .ifCond .eq 7, [9]) := rfl
theorem s_86_6 {d : Nat} {σ : xS} {st : List Value} {Q : xR → xS → Prop} {l0 : Option Value} {x : Int32} : G d 86 6 [l0] (.int x :: st) σ Q ↔ if x = 0 then G d 86 9 [l0] st σ Q else G d 86 7 [l0] st σ Q := gs_if f_86_6 rfl
theorem f_86_7 : ft 86 7 = some (16, .iconst 1, []) := rfl
theorem s_86_7 {d : Nat} {σ : xS} {st : List Value} {Q : xR → xS → Prop} {l0 : Option Value} : G d 86 7 [l0] st σ Q ↔ G d 86 8 [l0] (.int (1) :: st) σ Q := gs_go f_86_7 rfl
theorem f_86_8 : ft 86 8 = some (17, .goto 4, [10]) := rfl
theorem s_86_8 {d : Nat} {σ : xS} {st : List Value} {Q : xR → xS → Prop} {l0 : Option Value} : G d 86 8 [l0] st σ Q ↔ G d 86 10 [l0] st σ Q := gs_go f_86_8 rfl
theorem f_86_9 : ft 86 9 = some (20, .iconst 0, []) := rfl
theorem s_86_9 {d : Nat} {σ : xS} {st : List Value} {Q : xR → xS → Prop} {l0 : Option Value} : G d 86 9 [l0] st σ Q ↔ G d 86 10 [l0] (.int (0) :: st) σ Q := gs_go f_86_9 rfl
theorem f_86_10 : ft 86 10 = some (21, .ireturn, []) := rfl
theorem s_86_10 {d : Nat} {σ : xS} {ls : xL} {Q : xR → xS → Prop} {x : Int32} : G d 86 10 ls [.int x] σ Q ↔ ybo x ∧ Q (.inl (some (.int x))) σ := gs_retb f_86_10 rfl
theorem f_87_0 : ft 87 0 = some (0, .aload_n 0, []) := rfl
theorem s_87_0 {d : Nat} {σ : xS} {st : List Value} {Q : xR → xS → Prop} {l1 : Option Value} {x : Nat} : G d 87 0 [some (.ref x), l1] st σ Q ↔ G d 87 1 [some (.ref x), l1] (.ref x :: st) σ Q := gs_go f_87_0 rfl
theorem f_87_1 : ft 87 1 = some (1, .iload_n 1, []) := rfl
theorem s_87_1 {d : Nat} {σ : xS} {st : List Value} {Q : xR → xS → Prop} {l0 : Option Value} {x : Int32} : G d 87 1 [l0, some (.int x)] st σ Q ↔ G d 87 2 [l0, some (.int x)] (.int x :: st) σ Q := gs_go f_87_1 rfl
theorem f_87_2 : ft 87 2 = some (2, .invokevirtual 80, [84, 2, 0, 766]) := rfl
theorem s_87_2 {d : Nat} {t : yT} {st : List Value} {Q : xR → xS → Prop} {l0 l1 : Option Value} {a0 : Nat} {a1 : Int32} (ho : yisO 6 a0) : G (d + 1) 87 2 [l0, l1] (.int a1 :: .ref a0 :: st) (yemb t) Q ↔ xcat st ≤ 8 ∧ Cl d 84 [.ref a0, .int a1] (yemb t) (Gk (d + 1) 87 2 [l0, l1] st Q) := gs_call f_87_2 ((xinv_call (i := 2) (n := 766) (ls := [l0, l1]) (kind := 0) (σ := yemb t) (by decide)).trans (xcall_vi [.int a1, .ref a0] rfl rfl (show (2 : Nat) ≤ 2 by decide) rfl ho))
theorem f_87_3 : ft 87 3 = some (5, .ifCond .ne 10, [8]) := rfl
theorem s_87_3 {d : Nat} {σ : xS} {st : List Value} {Q : xR → xS → Prop} {l0 l1 : Option Value} {x : Int32} : G d 87 3 [l0, l1] (.int x :: st) σ Q ↔ if x ≠ 0 then G d 87 8 [l0, l1] st σ Q else G d 87 4 [l0, l1] st σ Q := gs_if f_87_3 rfl
theorem f_87_4 : ft 87 4 = some (8, .aload_n 0, []) := rfl
theorem s_87_4 {d : Nat} {σ : xS} {st : List Value} {Q : xR → xS → Prop} {l1 : Option Value} {x : Nat} : G d 87 4 [some (.ref x), l1] st σ Q ↔ G d 87 5 [some (.ref x), l1] (.ref x :: st) σ Q := gs_go f_87_4 rfl
theorem f_87_5 : ft 87 5 = some (9, .bipush (-2), []) := rfl
theorem s_87_5 {d : Nat} {σ : xS} {st : List Value} {Q : xR → xS → Prop} {l0 l1 : Option Value} : G d 87 5 [l0, l1] st σ Q ↔ G d 87 6 [l0, l1] (.int (-2) :: st) σ Q := gs_go f_87_5 rfl
theorem f_87_6 : ft 87 6 = some (11, .invokevirtual 76, [90, 2, 0, 749]) := rfl
theorem s_87_6 {d : Nat} {t : yT} {st : List Value} {Q : xR → xS → Prop} {l0 l1 : Option Value} {a0 : Nat} {a1 : Int32} (ho : yisO 6 a0) : G (d + 1) 87 6 [l0, l1] (.int a1 :: .ref a0 :: st) (yemb t) Q ↔ xcat st ≤ 8 ∧ Cl d 90 [.ref a0, .int a1] (yemb t) (Gk (d + 1) 87 6 [l0, l1] st Q) := gs_call f_87_6 ((xinv_call (i := 6) (n := 749) (ls := [l0, l1]) (kind := 0) (σ := yemb t) (by decide)).trans (xcall_vi [.int a1, .ref a0] rfl rfl (show (2 : Nat) ≤ 2 by decide) rfl ho))
theorem f_87_7 : ft 87 7 = some (14, .ireturn, []) := rfl
theorem s_87_7 {d : Nat} {σ : xS} {ls : xL} {Q : xR → xS → Prop} {x : Int32} : G d 87 7 ls [.int x] σ Q ↔ ybo x ∧ Q (.inl (some (.int x))) σ := gs_retb f_87_7 rfl
theorem f_87_8 : ft 87 8 = some (15, .aload_n 0, []) := rfl
theorem s_87_8 {d : Nat} {σ : xS} {st : List Value} {Q : xR → xS → Prop} {l1 : Option Value} {x : Nat} : G d 87 8 [some (.ref x), l1] st σ Q ↔ G d 87 9 [some (.ref x), l1] (.ref x :: st) σ Q := gs_go f_87_8 rfl
theorem f_87_9 : ft 87 9 = some (16, .invokevirtual 52, [80, 1, 0, 669]) := rfl
theorem s_87_9 {d : Nat} {t : yT} {st : List Value} {Q : xR → xS → Prop} {l0 l1 : Option Value} {a0 : Nat} (ho : yisO 6 a0) : G (d + 1) 87 9 [l0, l1] (.ref a0 :: st) (yemb t) Q ↔ xcat st ≤ 8 ∧ Cl d 80 [.ref a0] (yemb t) (Gk (d + 1) 87 9 [l0, l1] st Q) := gs_call f_87_9 ((xinv_call (i := 9) (n := 669) (ls := [l0, l1]) (kind := 0) (σ := yemb t) (by decide)).trans (xcall_vi [.ref a0] rfl rfl (show (1 : Nat) ≤ 1 by decide) rfl ho))
theorem f_87_10 : ft 87 10 = some (19, .iconst 1, []) := rfl
theorem s_87_10 {d : Nat} {σ : xS} {st : List Value} {Q : xR → xS → Prop} {l0 l1 : Option Value} : G d 87 10 [l0, l1] st σ Q ↔ G d 87 11 [l0, l1] (.int (1) :: st) σ Q := gs_go f_87_10 rfl
theorem f_87_11 : ft 87 11 = some (20, .ireturn, []) := rfl
theorem s_87_11 {d : Nat} {σ : xS} {ls : xL} {Q : xR → xS → Prop} {x : Int32} : G d 87 11 ls [.int x] σ Q ↔ ybo x ∧ Q (.inl (some (.int x))) σ := gs_retb f_87_11 rfl
theorem f_88_0 : ft 88 0 = some (0, .aload_n 0, []) := rfl
theorem s_88_0 {d : Nat} {σ : xS} {st : List Value} {Q : xR → xS → Prop} {l1 : Option Value} {x : Nat} : G d 88 0 [some (.ref x), l1] st σ Q ↔ G d 88 1 [some (.ref x), l1] (.ref x :: st) σ Q := gs_go f_88_0 rfl
theorem f_88_1 : ft 88 1 = some (1, .aload_n 1, []) := rfl
theorem s_88_1 {d : Nat} {σ : xS} {st : List Value} {Q : xR → xS → Prop} {l0 : Option Value} {x : Nat} : G d 88 1 [l0, some (.ref x)] st σ Q ↔ G d 88 2 [l0, some (.ref x)] (.ref x :: st) σ Q := gs_go f_88_1 rfl
theorem f_88_2 : ft 88 2 = some (2, .invokevirtual 84, [85, 2, 0, 697]) := rfl
theorem s_88_2 {d : Nat} {t : yT} {st : List Value} {Q : xR → xS → Prop} {l0 l1 : Option Value} {a0 : Nat} {a1 : Nat} (ho : yisO 6 a0) : G (d + 1) 88 2 [l0, l1] (.ref a1 :: .ref a0 :: st) (yemb t) Q ↔ xcat st ≤ 8 ∧ Cl d 85 [.ref a0, .ref a1] (yemb t) (Gk (d + 1) 88 2 [l0, l1] st Q) := gs_call f_88_2 ((xinv_call (i := 2) (n := 697) (ls := [l0, l1]) (kind := 0) (σ := yemb t) (by decide)).trans (xcall_vi [.ref a1, .ref a0] rfl rfl (show (2 : Nat) ≤ 3 by decide) rfl ho))
theorem f_88_3 : ft 88 3 = some (5, .ifCond .ne 10, [8]) := rfl
theorem s_88_3 {d : Nat} {σ : xS} {st : List Value} {Q : xR → xS → Prop} {l0 l1 : Option Value} {x : Int32} : G d 88 3 [l0, l1] (.int x :: st) σ Q ↔ if x ≠ 0 then G d 88 8 [l0, l1] st σ Q else G d 88 4 [l0, l1] st σ Q := gs_if f_88_3 rfl
theorem f_88_4 : ft 88 4 = some (8, .aload_n 0, []) := rfl
theorem s_88_4 {d : Nat} {σ : xS} {st : List Value} {Q : xR → xS → Prop} {l1 : Option Value} {x : Nat} : G d 88 4 [some (.ref x), l1] st σ Q ↔ G d 88 5 [some (.ref x), l1] (.ref x :: st) σ Q := gs_go f_88_4 rfl
theorem f_88_5 : ft 88 5 = some (9, .bipush (-2), []) := rfl
theorem s_88_5 {d : Nat} {σ : xS} {st : List Value} {Q : xR → xS → Prop} {l0 l1 : Option Value} : G d 88 5 [l0, l1] st σ Q ↔ G d 88 6 [l0, l1] (.int (-2) :: st) σ Q := gs_go f_88_5 rfl
theorem f_88_6 : ft 88 6 = some (11, .invokevirtual 76, [90, 2, 0, 749]) := rfl
theorem s_88_6 {d : Nat} {t : yT} {st : List Value} {Q : xR → xS → Prop} {l0 l1 : Option Value} {a0 : Nat} {a1 : Int32} (ho : yisO 6 a0) : G (d + 1) 88 6 [l0, l1] (.int a1 :: .ref a0 :: st) (yemb t) Q ↔ xcat st ≤ 8 ∧ Cl d 90 [.ref a0, .int a1] (yemb t) (Gk (d + 1) 88 6 [l0, l1] st Q) := gs_call f_88_6 ((xinv_call (i := 6) (n := 749) (ls := [l0, l1]) (kind := 0) (σ := yemb t) (by decide)).trans (xcall_vi [.int a1, .ref a0] rfl rfl (show (2 : Nat) ≤ 2 by decide) rfl ho))
theorem f_88_7 : ft 88 7 = some (14, .ireturn, []) := rfl
theorem s_88_7 {d : Nat} {σ : xS} {ls : xL} {Q : xR → xS → Prop} {x : Int32} : G d 88 7 ls [.int x] σ Q ↔ ybo x ∧ Q (.inl (some (.int x))) σ := gs_retb f_88_7 rfl
theorem f_88_8 : ft 88 8 = some (15, .aload_n 0, []) := rfl
theorem s_88_8 {d : Nat} {σ : xS} {st : List Value} {Q : xR → xS → Prop} {l1 : Option Value} {x : Nat} : G d 88 8 [some (.ref x), l1] st σ Q ↔ G d 88 9 [some (.ref x), l1] (.ref x :: st) σ Q := gs_go f_88_8 rfl
theorem f_88_9 : ft 88 9 = some (16, .invokevirtual 52, [80, 1, 0, 669]) := rfl
theorem s_88_9 {d : Nat} {t : yT} {st : List Value} {Q : xR → xS → Prop} {l0 l1 : Option Value} {a0 : Nat} (ho : yisO 6 a0) : G (d + 1) 88 9 [l0, l1] (.ref a0 :: st) (yemb t) Q ↔ xcat st ≤ 8 ∧ Cl d 80 [.ref a0] (yemb t) (Gk (d + 1) 88 9 [l0, l1] st Q) := gs_call f_88_9 ((xinv_call (i := 9) (n := 669) (ls := [l0, l1]) (kind := 0) (σ := yemb t) (by decide)).trans (xcall_vi [.ref a0] rfl rfl (show (1 : Nat) ≤ 1 by decide) rfl ho))
theorem f_88_10 : ft 88 10 = some (19, .iconst 1, []) := rfl
theorem s_88_10 {d : Nat} {σ : xS} {st : List Value} {Q : xR → xS → Prop} {l0 l1 : Option Value} : G d 88 10 [l0, l1] st σ Q ↔ G d 88 11 [l0, l1] (.int (1) :: st) σ Q := gs_go f_88_10 rfl
theorem f_88_11 : ft 88 11 = some (20, .ireturn, []) := rfl
theorem s_88_11 {d : Nat} {σ : xS} {ls : xL} {Q : xR → xS → Prop} {x : Int32} : G d 88 11 ls [.int x] σ Q ↔ ybo x ∧ Q (.inl (some (.int x))) σ := gs_retb f_88_11 rfl
theorem f_89_0 : ft 89 0 = some (0, .aload_n 0, []) := rfl
theorem s_89_0 {d : Nat} {σ : xS} {st : List Value} {Q : xR → xS → Prop} {l1 l2 l3 : Option Value} {x : Nat} : G d 89 0 [some (.ref x), l1, l2, l3] st σ Q ↔ G d 89 1 [some (.ref x), l1, l2, l3] (.ref x :: st) σ Q := gs_go f_89_0 rfl
theorem f_89_1 : ft 89 1 = some (1, .getfield 22, [6, 3, 0, 80]) := rfl
theorem s_89_1 {d : Nat} {t : yT} {st : List Value} {Q : xR → xS → Prop} {l0 l1 l2 l3 : Option Value} {a : Nat} (ho : yisO 6 a) : G d 89 1 [l0, l1, l2, l3] (.ref a :: st) (yemb t) Q ↔ G d 89 2 [l0, l1, l2, l3] (.int (t.A a 3) :: st) (yemb t) Q := gs_getf (c := 6) (j := 3) (q := .i) f_89_1 ho rfl
theorem f_89_2 : ft 89 2 = some (4, .iconst 1, []) := rfl
theorem s_89_2 {d : Nat} {σ : xS} {st : List Value} {Q : xR → xS → Prop} {l0 l1 l2 l3 : Option Value} : G d 89 2 [l0, l1, l2, l3] st σ Q ↔ G d 89 3 [l0, l1, l2, l3] (.int (1) :: st) σ Q := gs_go f_89_2 rfl
theorem f_89_3 : ft 89 3 = some (5, .if_icmp .eq 12, [10]) := rfl
theorem s_89_3 {d : Nat} {σ : xS} {st : List Value} {Q : xR → xS → Prop} {l0 l1 l2 l3 : Option Value} {x y : Int32} : G d 89 3 [l0, l1, l2, l3] (.int y :: .int x :: st) σ Q ↔ if x = y then G d 89 10 [l0, l1, l2, l3] st σ Q else G d 89 4 [l0, l1, l2, l3] st σ Q := gs_if f_89_3 rfl
theorem f_89_4 : ft 89 4 = some (8, .aload_n 0, []) := rfl
theorem s_89_4 {d : Nat} {σ : xS} {st : List Value} {Q : xR → xS → Prop} {l1 l2 l3 : Option Value} {x : Nat} : G d 89 4 [some (.ref x), l1, l2, l3] st σ Q ↔ G d 89 5 [some (.ref x), l1, l2, l3] (.ref x :: st) σ Q := gs_go f_89_4 rfl
theorem f_89_5 : ft 89 5 = some (9, .bipush (-2), []) := rfl
theorem s_89_5 {d : Nat} {σ : xS} {st : List Value} {Q : xR → xS → Prop} {l0 l1 l2 l3 : Option Value} : G d 89 5 [l0, l1, l2, l3] st σ Q ↔ G d 89 6 [l0, l1, l2, l3] (.int (-2) :: st) σ Q := gs_go f_89_5 rfl
theorem f_89_6 : ft 89 6 = some (11, .invokevirtual 76, [90, 2, 0, 749]) := rfl
theorem s_89_6 {d : Nat} {t : yT} {st : List Value} {Q : xR → xS → Prop} {l0 l1 l2 l3 : Option Value} {a0 : Nat} {a1 : Int32} (ho : yisO 6 a0) : G (d + 1) 89 6 [l0, l1, l2, l3] (.int a1 :: .ref a0 :: st) (yemb t) Q ↔ xcat st ≤ 8 ∧ Cl d 90 [.ref a0, .int a1] (yemb t) (Gk (d + 1) 89 6 [l0, l1, l2, l3] st Q) := gs_call f_89_6 ((xinv_call (i := 6) (n := 749) (ls := [l0, l1, l2, l3]) (kind := 0) (σ := yemb t) (by decide)).trans (xcall_vi [.int a1, .ref a0] rfl rfl (show (2 : Nat) ≤ 2 by decide) rfl ho))
theorem f_89_7 : ft 89 7 = some (14, .pop, []) := rfl
theorem s_89_7 {d : Nat} {σ : xS} {st : List Value} {Q : xR → xS → Prop} {l0 l1 l2 l3 : Option Value} {x : Nat} : G d 89 7 [l0, l1, l2, l3] (.ref x :: st) σ Q ↔ G d 89 8 [l0, l1, l2, l3] st σ Q := gs_go f_89_7 rfl
theorem s_89_7i {d : Nat} {σ : xS} {st : List Value} {Q : xR → xS → Prop} {l0 l1 l2 l3 : Option Value} {x : Int32} : G d 89 7 [l0, l1, l2, l3] (.int x :: st) σ Q ↔ G d 89 8 [l0, l1, l2, l3] st σ Q := gs_go f_89_7 rfl
theorem f_89_8 : ft 89 8 = some (15, .iconst (-1), []) := rfl
theorem s_89_8 {d : Nat} {σ : xS} {st : List Value} {Q : xR → xS → Prop} {l0 l1 l2 l3 : Option Value} : G d 89 8 [l0, l1, l2, l3] st σ Q ↔ G d 89 9 [l0, l1, l2, l3] (.int (-1) :: st) σ Q := gs_go f_89_8 rfl
theorem f_89_9 : ft 89 9 = some (16, .ireturn, []) := rfl
theorem s_89_9 {d : Nat} {σ : xS} {ls : xL} {Q : xR → xS → Prop} {x : Int32} : G d 89 9 ls [.int x] σ Q ↔ Q (.inl (some (.int x))) σ := gs_reti f_89_9 rfl
theorem f_89_10 : ft 89 10 = some (17, .aload_n 0, []) := rfl
theorem s_89_10 {d : Nat} {σ : xS} {st : List Value} {Q : xR → xS → Prop} {l1 l2 l3 : Option Value} {x : Nat} : G d 89 10 [some (.ref x), l1, l2, l3] st σ Q ↔ G d 89 11 [some (.ref x), l1, l2, l3] (.ref x :: st) σ Q := gs_go f_89_10 rfl
theorem f_89_11 : ft 89 11 = some (18, .getfield 31, [6, 6, 0, 83]) := rfl
theorem s_89_11 {d : Nat} {t : yT} {st : List Value} {Q : xR → xS → Prop} {l0 l1 l2 l3 : Option Value} {a : Nat} (ho : yisO 6 a) : G d 89 11 [l0, l1, l2, l3] (.ref a :: st) (yemb t) Q ↔ G d 89 12 [l0, l1, l2, l3] (.int (t.A a 6) :: st) (yemb t) Q := gs_getf (c := 6) (j := 6) (q := .i) f_89_11 ho rfl
theorem f_89_12 : ft 89 12 = some (21, .iload_n 1, []) := rfl
theorem s_89_12 {d : Nat} {σ : xS} {st : List Value} {Q : xR → xS → Prop} {l0 l2 l3 : Option Value} {x : Int32} : G d 89 12 [l0, some (.int x), l2, l3] st σ Q ↔ G d 89 13 [l0, some (.int x), l2, l3] (.int x :: st) σ Q := gs_go f_89_12 rfl
theorem f_89_13 : ft 89 13 = some (22, .if_icmp .lt 11, [18]) := rfl
theorem s_89_13 {d : Nat} {σ : xS} {st : List Value} {Q : xR → xS → Prop} {l0 l1 l2 l3 : Option Value} {x y : Int32} : G d 89 13 [l0, l1, l2, l3] (.int y :: .int x :: st) σ Q ↔ if x < y then G d 89 18 [l0, l1, l2, l3] st σ Q else G d 89 14 [l0, l1, l2, l3] st σ Q := gs_if f_89_13 rfl
theorem f_89_14 : ft 89 14 = some (25, .aload_n 0, []) := rfl
theorem s_89_14 {d : Nat} {σ : xS} {st : List Value} {Q : xR → xS → Prop} {l1 l2 l3 : Option Value} {x : Nat} : G d 89 14 [some (.ref x), l1, l2, l3] st σ Q ↔ G d 89 15 [some (.ref x), l1, l2, l3] (.ref x :: st) σ Q := gs_go f_89_14 rfl
theorem f_89_15 : ft 89 15 = some (26, .getfield 31, [6, 6, 0, 83]) := rfl
theorem s_89_15 {d : Nat} {t : yT} {st : List Value} {Q : xR → xS → Prop} {l0 l1 l2 l3 : Option Value} {a : Nat} (ho : yisO 6 a) : G d 89 15 [l0, l1, l2, l3] (.ref a :: st) (yemb t) Q ↔ G d 89 16 [l0, l1, l2, l3] (.int (t.A a 6) :: st) (yemb t) Q := gs_getf (c := 6) (j := 6) (q := .i) f_89_15 ho rfl
theorem f_89_16 : ft 89 16 = some (29, .iload_n 2, []) := rfl
theorem s_89_16 {d : Nat} {σ : xS} {st : List Value} {Q : xR → xS → Prop} {l0 l1 l3 : Option Value} {x : Int32} : G d 89 16 [l0, l1, some (.int x), l3] st σ Q ↔ G d 89 17 [l0, l1, some (.int x), l3] (.int x :: st) σ Q := gs_go f_89_16 rfl
theorem f_89_17 : ft 89 17 = some (30, .if_icmp .le 12, [24]) := rfl
theorem s_89_17 {d : Nat} {σ : xS} {st : List Value} {Q : xR → xS → Prop} {l0 l1 l2 l3 : Option Value} {x y : Int32} : G d 89 17 [l0, l1, l2, l3] (.int y :: .int x :: st) σ Q ↔ if x ≤ y then G d 89 24 [l0, l1, l2, l3] st σ Q else G d 89 18 [l0, l1, l2, l3] st σ Q := gs_if f_89_17 rfl
theorem f_89_18 : ft 89 18 = some (33, .aload_n 0, []) := rfl
theorem s_89_18 {d : Nat} {σ : xS} {st : List Value} {Q : xR → xS → Prop} {l1 l2 l3 : Option Value} {x : Nat} : G d 89 18 [some (.ref x), l1, l2, l3] st σ Q ↔ G d 89 19 [some (.ref x), l1, l2, l3] (.ref x :: st) σ Q := gs_go f_89_18 rfl
theorem f_89_19 : ft 89 19 = some (34, .bipush (-3), []) := rfl
theorem s_89_19 {d : Nat} {σ : xS} {st : List Value} {Q : xR → xS → Prop} {l0 l1 l2 l3 : Option Value} : G d 89 19 [l0, l1, l2, l3] st σ Q ↔ G d 89 20 [l0, l1, l2, l3] (.int (-3) :: st) σ Q := gs_go f_89_19 rfl
theorem f_89_20 : ft 89 20 = some (36, .invokevirtual 76, [90, 2, 0, 749]) := rfl
theorem s_89_20 {d : Nat} {t : yT} {st : List Value} {Q : xR → xS → Prop} {l0 l1 l2 l3 : Option Value} {a0 : Nat} {a1 : Int32} (ho : yisO 6 a0) : G (d + 1) 89 20 [l0, l1, l2, l3] (.int a1 :: .ref a0 :: st) (yemb t) Q ↔ xcat st ≤ 8 ∧ Cl d 90 [.ref a0, .int a1] (yemb t) (Gk (d + 1) 89 20 [l0, l1, l2, l3] st Q) := gs_call f_89_20 ((xinv_call (i := 20) (n := 749) (ls := [l0, l1, l2, l3]) (kind := 0) (σ := yemb t) (by decide)).trans (xcall_vi [.int a1, .ref a0] rfl rfl (show (2 : Nat) ≤ 2 by decide) rfl ho))
theorem f_89_21 : ft 89 21 = some (39, .pop, []) := rfl
theorem s_89_21 {d : Nat} {σ : xS} {st : List Value} {Q : xR → xS → Prop} {l0 l1 l2 l3 : Option Value} {x : Nat} : G d 89 21 [l0, l1, l2, l3] (.ref x :: st) σ Q ↔ G d 89 22 [l0, l1, l2, l3] st σ Q := gs_go f_89_21 rfl
theorem s_89_21i {d : Nat} {σ : xS} {st : List Value} {Q : xR → xS → Prop} {l0 l1 l2 l3 : Option Value} {x : Int32} : G d 89 21 [l0, l1, l2, l3] (.int x :: st) σ Q ↔ G d 89 22 [l0, l1, l2, l3] st σ Q := gs_go f_89_21 rfl
theorem f_89_22 : ft 89 22 = some (40, .iconst (-1), []) := rfl
theorem s_89_22 {d : Nat} {σ : xS} {st : List Value} {Q : xR → xS → Prop} {l0 l1 l2 l3 : Option Value} : G d 89 22 [l0, l1, l2, l3] st σ Q ↔ G d 89 23 [l0, l1, l2, l3] (.int (-1) :: st) σ Q := gs_go f_89_22 rfl
theorem f_89_23 : ft 89 23 = some (41, .ireturn, []) := rfl
theorem s_89_23 {d : Nat} {σ : xS} {ls : xL} {Q : xR → xS → Prop} {x : Int32} : G d 89 23 ls [.int x] σ Q ↔ Q (.inl (some (.int x))) σ := gs_reti f_89_23 rfl
theorem f_89_24 : ft 89 24 = some (42, .aload_n 0, []) := rfl
theorem s_89_24 {d : Nat} {σ : xS} {st : List Value} {Q : xR → xS → Prop} {l1 l2 l3 : Option Value} {x : Nat} : G d 89 24 [some (.ref x), l1, l2, l3] st σ Q ↔ G d 89 25 [some (.ref x), l1, l2, l3] (.ref x :: st) σ Q := gs_go f_89_24 rfl
theorem f_89_25 : ft 89 25 = some (43, .getfield 31, [6, 6, 0, 83]) := rfl
theorem s_89_25 {d : Nat} {t : yT} {st : List Value} {Q : xR → xS → Prop} {l0 l1 l2 l3 : Option Value} {a : Nat} (ho : yisO 6 a) : G d 89 25 [l0, l1, l2, l3] (.ref a :: st) (yemb t) Q ↔ G d 89 26 [l0, l1, l2, l3] (.int (t.A a 6) :: st) (yemb t) Q := gs_getf (c := 6) (j := 6) (q := .i) f_89_25 ho rfl
theorem f_89_26 : ft 89 26 = some (46, .istore_n 3, []) := rfl
theorem s_89_26 {d : Nat} {σ : xS} {st : List Value} {Q : xR → xS → Prop} {l0 l1 l2 l3 : Option Value} {x : Int32} : G d 89 26 [l0, l1, l2, l3] (.int x :: st) σ Q ↔ G d 89 27 [l0, l1, ykl l2, some (.int x)] st σ Q := by
  cases l2 with
  | none => exact gs_go f_89_26 rfl
  | some v => cases v <;> exact gs_go f_89_26 rfl
theorem f_89_27 : ft 89 27 = some (47, .aload_n 0, []) := rfl
theorem s_89_27 {d : Nat} {σ : xS} {st : List Value} {Q : xR → xS → Prop} {l1 l2 l3 : Option Value} {x : Nat} : G d 89 27 [some (.ref x), l1, l2, l3] st σ Q ↔ G d 89 28 [some (.ref x), l1, l2, l3] (.ref x :: st) σ Q := gs_go f_89_27 rfl
theorem f_89_28 : ft 89 28 = some (48, .aload_n 0, []) := rfl
theorem s_89_28 {d : Nat} {σ : xS} {st : List Value} {Q : xR → xS → Prop} {l1 l2 l3 : Option Value} {x : Nat} : G d 89 28 [some (.ref x), l1, l2, l3] st σ Q ↔ G d 89 29 [some (.ref x), l1, l2, l3] (.ref x :: st) σ Q := gs_go f_89_28 rfl
theorem f_89_29 : ft 89 29 = some (49, .getfield 25, [6, 4, 0, 81]) := rfl
theorem s_89_29 {d : Nat} {t : yT} {st : List Value} {Q : xR → xS → Prop} {l0 l1 l2 l3 : Option Value} {a : Nat} (ho : yisO 6 a) : G d 89 29 [l0, l1, l2, l3] (.ref a :: st) (yemb t) Q ↔ G d 89 30 [l0, l1, l2, l3] (.int (t.A a 4) :: st) (yemb t) Q := gs_getf (c := 6) (j := 4) (q := .i) f_89_29 ho rfl
theorem f_89_30 : ft 89 30 = some (52, .putfield 34, [6, 7, 0, 84]) := rfl
theorem s_89_30 {d : Nat} {t : yT} {st : List Value} {Q : xR → xS → Prop} {l0 l1 l2 l3 : Option Value} {a : Nat} {x : Int32} (ho : yisO 6 a) : G d 89 30 [l0, l1, l2, l3] (.int x :: .ref a :: st) (yemb t) Q ↔ G d 89 31 [l0, l1, l2, l3] st (yemb (t.s1 a 7 x)) Q := gs_putI (c := 6) (j := 7) f_89_30 (fun _ => rfl) rfl rfl ho
theorem f_89_31 : ft 89 31 = some (55, .aload_n 0, []) := rfl
theorem s_89_31 {d : Nat} {σ : xS} {st : List Value} {Q : xR → xS → Prop} {l1 l2 l3 : Option Value} {x : Nat} : G d 89 31 [some (.ref x), l1, l2, l3] st σ Q ↔ G d 89 32 [some (.ref x), l1, l2, l3] (.ref x :: st) σ Q := gs_go f_89_31 rfl
theorem f_89_32 : ft 89 32 = some (56, .invokevirtual 52, [80, 1, 0, 669]) := rfl
theorem s_89_32 {d : Nat} {t : yT} {st : List Value} {Q : xR → xS → Prop} {l0 l1 l2 l3 : Option Value} {a0 : Nat} (ho : yisO 6 a0) : G (d + 1) 89 32 [l0, l1, l2, l3] (.ref a0 :: st) (yemb t) Q ↔ xcat st ≤ 8 ∧ Cl d 80 [.ref a0] (yemb t) (Gk (d + 1) 89 32 [l0, l1, l2, l3] st Q) := gs_call f_89_32 ((xinv_call (i := 32) (n := 669) (ls := [l0, l1, l2, l3]) (kind := 0) (σ := yemb t) (by decide)).trans (xcall_vi [.ref a0] rfl rfl (show (1 : Nat) ≤ 1 by decide) rfl ho))
theorem f_89_33 : ft 89 33 = some (59, .iload_n 3, []) := rfl
theorem s_89_33 {d : Nat} {σ : xS} {st : List Value} {Q : xR → xS → Prop} {l0 l1 l2 : Option Value} {x : Int32} : G d 89 33 [l0, l1, l2, some (.int x)] st σ Q ↔ G d 89 34 [l0, l1, l2, some (.int x)] (.int x :: st) σ Q := gs_go f_89_33 rfl
theorem f_89_34 : ft 89 34 = some (60, .ireturn, []) := rfl
theorem s_89_34 {d : Nat} {σ : xS} {ls : xL} {Q : xR → xS → Prop} {x : Int32} : G d 89 34 ls [.int x] σ Q ↔ Q (.inl (some (.int x))) σ := gs_reti f_89_34 rfl
theorem f_90_0 : ft 90 0 = some (0, .aload_n 0, []) := rfl
theorem s_90_0 {d : Nat} {σ : xS} {st : List Value} {Q : xR → xS → Prop} {l1 : Option Value} {x : Nat} : G d 90 0 [some (.ref x), l1] st σ Q ↔ G d 90 1 [some (.ref x), l1] (.ref x :: st) σ Q := gs_go f_90_0 rfl
theorem f_90_1 : ft 90 1 = some (1, .iload_n 1, []) := rfl
theorem s_90_1 {d : Nat} {σ : xS} {st : List Value} {Q : xR → xS → Prop} {l0 : Option Value} {x : Int32} : G d 90 1 [l0, some (.int x)] st σ Q ↔ G d 90 2 [l0, some (.int x)] (.int x :: st) σ Q := gs_go f_90_1 rfl
theorem f_90_2 : ft 90 2 = some (2, .aload_n 0, []) := rfl
theorem s_90_2 {d : Nat} {σ : xS} {st : List Value} {Q : xR → xS → Prop} {l1 : Option Value} {x : Nat} : G d 90 2 [some (.ref x), l1] st σ Q ↔ G d 90 3 [some (.ref x), l1] (.ref x :: st) σ Q := gs_go f_90_2 rfl
theorem f_90_3 : ft 90 3 = some (3, .getfield 25, [6, 4, 0, 81]) := rfl
theorem s_90_3 {d : Nat} {t : yT} {st : List Value} {Q : xR → xS → Prop} {l0 l1 : Option Value} {a : Nat} (ho : yisO 6 a) : G d 90 3 [l0, l1] (.ref a :: st) (yemb t) Q ↔ G d 90 4 [l0, l1] (.int (t.A a 4) :: st) (yemb t) Q := gs_getf (c := 6) (j := 4) (q := .i) f_90_3 ho rfl
theorem f_90_4 : ft 90 4 = some (6, .invokevirtual 88, [92, 3, 0, 753]) := rfl
theorem s_90_4 {d : Nat} {t : yT} {st : List Value} {Q : xR → xS → Prop} {l0 l1 : Option Value} {a0 : Nat} {a1 : Int32} {a2 : Int32} (ho : yisO 6 a0) : G (d + 1) 90 4 [l0, l1] (.int a2 :: .int a1 :: .ref a0 :: st) (yemb t) Q ↔ xcat st ≤ 8 ∧ Cl d 92 [.ref a0, .int a1, .int a2] (yemb t) (Gk (d + 1) 90 4 [l0, l1] st Q) := gs_call f_90_4 ((xinv_call (i := 4) (n := 753) (ls := [l0, l1]) (kind := 0) (σ := yemb t) (by decide)).trans (xcall_vi [.int a2, .int a1, .ref a0] rfl rfl (show (3 : Nat) ≤ 3 by decide) rfl ho))
theorem f_90_5 : ft 90 5 = some (9, .ireturn, []) := rfl
theorem s_90_5 {d : Nat} {σ : xS} {ls : xL} {Q : xR → xS → Prop} {x : Int32} : G d 90 5 ls [.int x] σ Q ↔ ybo x ∧ Q (.inl (some (.int x))) σ := gs_retb f_90_5 rfl
theorem f_91_0 : ft 91 0 = some (0, .aload_n 0, []) := rfl
theorem s_91_0 {d : Nat} {σ : xS} {st : List Value} {Q : xR → xS → Prop} {l1 : Option Value} {x : Nat} : G d 91 0 [some (.ref x), l1] st σ Q ↔ G d 91 1 [some (.ref x), l1] (.ref x :: st) σ Q := gs_go f_91_0 rfl
theorem f_91_1 : ft 91 1 = some (1, .iload_n 1, []) := rfl
theorem s_91_1 {d : Nat} {σ : xS} {st : List Value} {Q : xR → xS → Prop} {l0 : Option Value} {x : Int32} : G d 91 1 [l0, some (.int x)] st σ Q ↔ G d 91 2 [l0, some (.int x)] (.int x :: st) σ Q := gs_go f_91_1 rfl
theorem f_91_2 : ft 91 2 = some (2, .aload_n 0, []) := rfl
theorem s_91_2 {d : Nat} {σ : xS} {st : List Value} {Q : xR → xS → Prop} {l1 : Option Value} {x : Nat} : G d 91 2 [some (.ref x), l1] st σ Q ↔ G d 91 3 [some (.ref x), l1] (.ref x :: st) σ Q := gs_go f_91_2 rfl
theorem f_91_3 : ft 91 3 = some (3, .getfield 34, [6, 7, 0, 84]) := rfl
theorem s_91_3 {d : Nat} {t : yT} {st : List Value} {Q : xR → xS → Prop} {l0 l1 : Option Value} {a : Nat} (ho : yisO 6 a) : G d 91 3 [l0, l1] (.ref a :: st) (yemb t) Q ↔ G d 91 4 [l0, l1] (.int (t.A a 7) :: st) (yemb t) Q := gs_getf (c := 6) (j := 7) (q := .i) f_91_3 ho rfl
theorem f_91_4 : ft 91 4 = some (6, .invokevirtual 88, [92, 3, 0, 753]) := rfl
theorem s_91_4 {d : Nat} {t : yT} {st : List Value} {Q : xR → xS → Prop} {l0 l1 : Option Value} {a0 : Nat} {a1 : Int32} {a2 : Int32} (ho : yisO 6 a0) : G (d + 1) 91 4 [l0, l1] (.int a2 :: .int a1 :: .ref a0 :: st) (yemb t) Q ↔ xcat st ≤ 8 ∧ Cl d 92 [.ref a0, .int a1, .int a2] (yemb t) (Gk (d + 1) 91 4 [l0, l1] st Q) := gs_call f_91_4 ((xinv_call (i := 4) (n := 753) (ls := [l0, l1]) (kind := 0) (σ := yemb t) (by decide)).trans (xcall_vi [.int a2, .int a1, .ref a0] rfl rfl (show (3 : Nat) ≤ 3 by decide) rfl ho))
theorem f_91_5 : ft 91 5 = some (9, .ireturn, []) := rfl
theorem s_91_5 {d : Nat} {σ : xS} {ls : xL} {Q : xR → xS → Prop} {x : Int32} : G d 91 5 ls [.int x] σ Q ↔ ybo x ∧ Q (.inl (some (.int x))) σ := gs_retb f_91_5 rfl
theorem f_92_0 : ft 92 0 = some (0, .aload_n 0, []) := rfl
theorem s_92_0 {d : Nat} {σ : xS} {st : List Value} {Q : xR → xS → Prop} {l1 l2 : Option Value} {x : Nat} : G d 92 0 [some (.ref x), l1, l2] st σ Q ↔ G d 92 1 [some (.ref x), l1, l2] (.ref x :: st) σ Q := gs_go f_92_0 rfl
theorem f_92_1 : ft 92 1 = some (1, .iload_n 1, []) := rfl
theorem s_92_1 {d : Nat} {σ : xS} {st : List Value} {Q : xR → xS → Prop} {l0 l2 : Option Value} {x : Int32} : G d 92 1 [l0, some (.int x), l2] st σ Q ↔ G d 92 2 [l0, some (.int x), l2] (.int x :: st) σ Q := gs_go f_92_1 rfl
theorem f_92_2 : ft 92 2 = some (2, .putfield 37, [6, 8, 0, 85]) := rfl
theorem s_92_2 {d : Nat} {t : yT} {st : List Value} {Q : xR → xS → Prop} {l0 l1 l2 : Option Value} {a : Nat} {x : Int32} (ho : yisO 6 a) : G d 92 2 [l0, l1, l2] (.int x :: .ref a :: st) (yemb t) Q ↔ G d 92 3 [l0, l1, l2] st (yemb (t.s1 a 8 x)) Q := gs_putI (c := 6) (j := 8) f_92_2 (fun _ => rfl) rfl rfl ho
theorem f_92_3 : ft 92 3 = some (5, .aload_n 0, []) := rfl
theorem s_92_3 {d : Nat} {σ : xS} {st : List Value} {Q : xR → xS → Prop} {l1 l2 : Option Value} {x : Nat} : G d 92 3 [some (.ref x), l1, l2] st σ Q ↔ G d 92 4 [some (.ref x), l1, l2] (.ref x :: st) σ Q := gs_go f_92_3 rfl
theorem f_92_4 : ft 92 4 = some (6, .iload_n 2, []) := rfl
theorem s_92_4 {d : Nat} {σ : xS} {st : List Value} {Q : xR → xS → Prop} {l0 l1 : Option Value} {x : Int32} : G d 92 4 [l0, l1, some (.int x)] st σ Q ↔ G d 92 5 [l0, l1, some (.int x)] (.int x :: st) σ Q := gs_go f_92_4 rfl
theorem f_92_5 : ft 92 5 = some (7, .putfield 40, [6, 9, 0, 86]) := rfl
theorem s_92_5 {d : Nat} {t : yT} {st : List Value} {Q : xR → xS → Prop} {l0 l1 l2 : Option Value} {a : Nat} {x : Int32} (ho : yisO 6 a) : G d 92 5 [l0, l1, l2] (.int x :: .ref a :: st) (yemb t) Q ↔ G d 92 6 [l0, l1, l2] st (yemb (t.s1 a 9 x)) Q := gs_putI (c := 6) (j := 9) f_92_5 (fun _ => rfl) rfl rfl ho
theorem f_92_6 : ft 92 6 = some (10, .iconst 0, []) := rfl
theorem s_92_6 {d : Nat} {σ : xS} {st : List Value} {Q : xR → xS → Prop} {l0 l1 l2 : Option Value} : G d 92 6 [l0, l1, l2] st σ Q ↔ G d 92 7 [l0, l1, l2] (.int (0) :: st) σ Q := gs_go f_92_6 rfl
theorem f_92_7 : ft 92 7 = some (11, .ireturn, []) := rfl
theorem s_92_7 {d : Nat} {σ : xS} {ls : xL} {Q : xR → xS → Prop} {x : Int32} : G d 92 7 ls [.int x] σ Q ↔ ybo x ∧ Q (.inl (some (.int x))) σ := gs_retb f_92_7 rfl

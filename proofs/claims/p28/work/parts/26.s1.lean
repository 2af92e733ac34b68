theorem f_93_0 : ft 93 0 = some (0, .aload_n 0, []) := rfl
theorem s_93_0 {d : Nat} {σ : xS} {st : List Value} {Q : xR → xS → Prop} {x : Nat} : G d 93 0 [some (.ref x)] st σ Q ↔ G d 93 1 [some (.ref x)] (.ref x :: st) σ Q := gs_go f_93_0 rfl
theorem f_93_1 : ft 93 1 = some (1, .invokespecial 1, [0, 1, 20, 68]) := rfl
theorem f_93_2 : ft 93 2 = some (4, .aload_n 0, []) := rfl
theorem s_93_2 {d : Nat} {σ : xS} {st : List Value} {Q : xR → xS → Prop} {x : Nat} : G d 93 2 [some (.ref x)] st σ Q ↔ G d 93 3 [some (.ref x)] (.ref x :: st) σ Q := gs_go f_93_2 rfl
theorem f_93_3 : ft 93 3 = some (5, .new 7, [0, 6, 71]) := rfl
theorem f_93_4 : ft 93 4 = some (8, .dup, []) := rfl
theorem s_93_4 {d : Nat} {σ : xS} {st : List Value} {Q : xR → xS → Prop} {l0 : Option Value} {x : Nat} : G d 93 4 [l0] (.ref x :: st) σ Q ↔ G d 93 5 [l0] (.ref x :: .ref x :: st) σ Q := gs_go f_93_4 rfl
theorem s_93_4i {d : Nat} {σ : xS} {st : List Value} {Q : xR → xS → Prop} {l0 : Option Value} {x : Int32} : G d 93 4 [l0] (.int x :: st) σ Q ↔ G d 93 5 [l0] (.int x :: .int x :: st) σ Q := gs_go f_93_4 rfl
theorem f_93_5 : ft 93 5 = some (9, .invokespecial 9, [73, 1, 5, 73]) := rfl
theorem s_93_5 {d : Nat} {t : yT} {st : List Value} {Q : xR → xS → Prop} {l0 : Option Value} {a0 : Nat} (ho : yisO 6 a0) : G (d + 1) 93 5 [l0] (.ref a0 :: st) (yemb t) Q ↔ xcat st ≤ 8 ∧ Cl d 73 [.ref a0] (yemb t) (Gk (d + 1) 93 5 [l0] st Q) := gs_call f_93_5 ((xinv_call (i := 5) (n := 73) (ls := [l0]) (kind := 5) (σ := yemb t) (by decide)).trans (xcall_vi [.ref a0] rfl rfl (show (1 : Nat) ≤ 1 by decide) rfl ho))
theorem f_93_6 : ft 93 6 = some (12, .putfield 10, [7, 0, 0, 316]) := rfl
theorem f_93_7 : ft 93 7 = some (15, .aload_n 0, []) := rfl
theorem s_93_7 {d : Nat} {σ : xS} {st : List Value} {Q : xR → xS → Prop} {x : Nat} : G d 93 7 [some (.ref x)] st σ Q ↔ G d 93 8 [some (.ref x)] (.ref x :: st) σ Q := gs_go f_93_7 rfl
theorem f_93_8 : ft 93 8 = some (16, .new 16, [0, 0, 109]) := rfl
theorem f_93_9 : ft 93 9 = some (19, .dup, []) := rfl
theorem s_93_9 {d : Nat} {σ : xS} {st : List Value} {Q : xR → xS → Prop} {l0 : Option Value} {x : Nat} : G d 93 9 [l0] (.ref x :: st) σ Q ↔ G d 93 10 [l0] (.ref x :: .ref x :: st) σ Q := gs_go f_93_9 rfl
theorem s_93_9i {d : Nat} {σ : xS} {st : List Value} {Q : xR → xS → Prop} {l0 : Option Value} {x : Int32} : G d 93 9 [l0] (.int x :: st) σ Q ↔ G d 93 10 [l0] (.int x :: .int x :: st) σ Q := gs_go f_93_9 rfl
theorem f_93_10 : ft 93 10 = some (20, .invokespecial 18, [0, 1, 5, 111]) := rfl
theorem s_93_10 {d : Nat} {t : yT} {st : List Value} {Q : xR → xS → Prop} {l0 : Option Value} {a0 : Nat} (ho : yisO 0 a0) : G (d + 1) 93 10 [l0] (.ref a0 :: st) (yemb t) Q ↔ xcat st ≤ 8 ∧ Cl d 0 [.ref a0] (yemb t) (Gk (d + 1) 93 10 [l0] st Q) := gs_call f_93_10 ((xinv_call (i := 10) (n := 111) (ls := [l0]) (kind := 5) (σ := yemb t) (by decide)).trans (xcall_vi [.ref a0] rfl rfl (show (1 : Nat) ≤ 1 by decide) rfl ho))
theorem f_93_11 : ft 93 11 = some (23, .putfield 19, [7, 1, 0, 317]) := rfl
theorem f_93_12 : ft 93 12 = some (26, .aload_n 0, []) := rfl
theorem s_93_12 {d : Nat} {σ : xS} {st : List Value} {Q : xR → xS → Prop} {x : Nat} : G d 93 12 [some (.ref x)] st σ Q ↔ G d 93 13 [some (.ref x)] (.ref x :: st) σ Q := gs_go f_93_12 rfl
theorem f_93_13 : ft 93 13 = some (27, .new 23, [0, 4, 129]) := rfl
theorem f_93_14 : ft 93 14 = some (30, .dup, []) := rfl
theorem s_93_14 {d : Nat} {σ : xS} {st : List Value} {Q : xR → xS → Prop} {l0 : Option Value} {x : Nat} : G d 93 14 [l0] (.ref x :: st) σ Q ↔ G d 93 15 [l0] (.ref x :: .ref x :: st) σ Q := gs_go f_93_14 rfl
theorem s_93_14i {d : Nat} {σ : xS} {st : List Value} {Q : xR → xS → Prop} {l0 : Option Value} {x : Int32} : G d 93 14 [l0] (.int x :: st) σ Q ↔ G d 93 15 [l0] (.int x :: .int x :: st) σ Q := gs_go f_93_14 rfl
theorem f_93_15 : ft 93 15 = some (31, .invokespecial 25, [29, 1, 2, 131]) := rfl
theorem s_93_15 {d : Nat} {t : yT} {st : List Value} {Q : xR → xS → Prop} {l0 : Option Value} {a0 : Nat} (ho : yisO 4 a0) : G (d + 1) 93 15 [l0] (.ref a0 :: st) (yemb t) Q ↔ xcat st ≤ 8 ∧ Cl d 29 [.ref a0] (yemb t) (Gk (d + 1) 93 15 [l0] st Q) := gs_call f_93_15 ((xinv_call (i := 15) (n := 131) (ls := [l0]) (kind := 2) (σ := yemb t) (by decide)).trans (xcall_vi [.ref a0] rfl rfl (show (1 : Nat) ≤ 1 by decide) rfl ho))
theorem f_93_16 : ft 93 16 = some (34, .putfield 26, [7, 2, 0, 318]) := rfl
theorem f_93_17 : ft 93 17 = some (37, .aload_n 0, []) := rfl
theorem s_93_17 {d : Nat} {σ : xS} {st : List Value} {Q : xR → xS → Prop} {x : Nat} : G d 93 17 [some (.ref x)] st σ Q ↔ G d 93 18 [some (.ref x)] (.ref x :: st) σ Q := gs_go f_93_17 rfl
theorem f_93_18 : ft 93 18 = some (38, .new 23, [0, 4, 129]) := rfl
theorem f_93_19 : ft 93 19 = some (41, .dup, []) := rfl
theorem s_93_19 {d : Nat} {σ : xS} {st : List Value} {Q : xR → xS → Prop} {l0 : Option Value} {x : Nat} : G d 93 19 [l0] (.ref x :: st) σ Q ↔ G d 93 20 [l0] (.ref x :: .ref x :: st) σ Q := gs_go f_93_19 rfl
theorem s_93_19i {d : Nat} {σ : xS} {st : List Value} {Q : xR → xS → Prop} {l0 : Option Value} {x : Int32} : G d 93 19 [l0] (.int x :: st) σ Q ↔ G d 93 20 [l0] (.int x :: .int x :: st) σ Q := gs_go f_93_19 rfl
theorem f_93_20 : ft 93 20 = some (42, .invokespecial 25, [29, 1, 2, 131]) := rfl
theorem s_93_20 {d : Nat} {t : yT} {st : List Value} {Q : xR → xS → Prop} {l0 : Option Value} {a0 : Nat} (ho : yisO 4 a0) : G (d + 1) 93 20 [l0] (.ref a0 :: st) (yemb t) Q ↔ xcat st ≤ 8 ∧ Cl d 29 [.ref a0] (yemb t) (Gk (d + 1) 93 20 [l0] st Q) := gs_call f_93_20 ((xinv_call (i := 20) (n := 131) (ls := [l0]) (kind := 2) (σ := yemb t) (by decide)).trans (xcall_vi [.ref a0] rfl rfl (show (1 : Nat) ≤ 1 by decide) rfl ho))
theorem f_93_21 : ft 93 21 = some (45, .putfield 30, [7, 3, 0, 319]) := rfl
theorem f_93_22 : ft 93 22 = some (48, .aload_n 0, []) := rfl
theorem s_93_22 {d : Nat} {σ : xS} {st : List Value} {Q : xR → xS → Prop} {x : Nat} : G d 93 22 [some (.ref x)] st σ Q ↔ G d 93 23 [some (.ref x)] (.ref x :: st) σ Q := gs_go f_93_22 rfl
theorem f_93_23 : ft 93 23 = some (49, .new 33, [0, 3, 219]) := rfl
theorem f_93_24 : ft 93 24 = some (52, .dup, []) := rfl
theorem s_93_24 {d : Nat} {σ : xS} {st : List Value} {Q : xR → xS → Prop} {l0 : Option Value} {x : Nat} : G d 93 24 [l0] (.ref x :: st) σ Q ↔ G d 93 25 [l0] (.ref x :: .ref x :: st) σ Q := gs_go f_93_24 rfl
theorem s_93_24i {d : Nat} {σ : xS} {st : List Value} {Q : xR → xS → Prop} {l0 : Option Value} {x : Int32} : G d 93 24 [l0] (.int x :: st) σ Q ↔ G d 93 25 [l0] (.int x :: .int x :: st) σ Q := gs_go f_93_24 rfl
theorem f_93_25 : ft 93 25 = some (53, .aload_n 0, []) := rfl
theorem s_93_25 {d : Nat} {σ : xS} {st : List Value} {Q : xR → xS → Prop} {x : Nat} : G d 93 25 [some (.ref x)] st σ Q ↔ G d 93 26 [some (.ref x)] (.ref x :: st) σ Q := gs_go f_93_25 rfl
theorem f_93_26 : ft 93 26 = some (54, .getfield 10, [7, 0, 0, 316]) := rfl
theorem s_93_26 {d : Nat} {t : yT} {st : List Value} {Q : xR → xS → Prop} {l0 : Option Value} {a : Nat} (ho : yisO 7 a) : G d 93 26 [l0] (.ref a :: st) (yemb t) Q ↔ G d 93 27 [l0] (.ref 1 :: st) (yemb t) Q := gs_getf (c := 7) (j := 0) (q := .c 1) f_93_26 ho rfl
theorem f_93_27 : ft 93 27 = some (57, .aload_n 0, []) := rfl
theorem s_93_27 {d : Nat} {σ : xS} {st : List Value} {Q : xR → xS → Prop} {x : Nat} : G d 93 27 [some (.ref x)] st σ Q ↔ G d 93 28 [some (.ref x)] (.ref x :: st) σ Q := gs_go f_93_27 rfl
theorem f_93_28 : ft 93 28 = some (58, .getfield 30, [7, 3, 0, 319]) := rfl
theorem s_93_28 {d : Nat} {t : yT} {st : List Value} {Q : xR → xS → Prop} {l0 : Option Value} {a : Nat} (ho : yisO 7 a) : G d 93 28 [l0] (.ref a :: st) (yemb t) Q ↔ G d 93 29 [l0] (.ref 19 :: st) (yemb t) Q := gs_getf (c := 7) (j := 3) (q := .c 19) f_93_28 ho rfl
theorem f_93_29 : ft 93 29 = some (61, .invokespecial 35, [20, 3, 2, 221]) := rfl
theorem s_93_29 {d : Nat} {t : yT} {st : List Value} {Q : xR → xS → Prop} {l0 : Option Value} {a0 : Nat} {a1 : Nat} {a2 : Nat} (ho : yisO 3 a0) : G (d + 1) 93 29 [l0] (.ref a2 :: .ref a1 :: .ref a0 :: st) (yemb t) Q ↔ xcat st ≤ 8 ∧ Cl d 20 [.ref a0, .ref a1, .ref a2] (yemb t) (Gk (d + 1) 93 29 [l0] st Q) := gs_call f_93_29 ((xinv_call (i := 29) (n := 221) (ls := [l0]) (kind := 2) (σ := yemb t) (by decide)).trans (xcall_vi [.ref a2, .ref a1, .ref a0] rfl rfl (show (3 : Nat) ≤ 3 by decide) rfl ho))
theorem f_93_30 : ft 93 30 = some (64, .putfield 38, [7, 4, 0, 320]) := rfl
theorem f_93_31 : ft 93 31 = some (67, .aload_n 0, []) := rfl
theorem s_93_31 {d : Nat} {σ : xS} {st : List Value} {Q : xR → xS → Prop} {x : Nat} : G d 93 31 [some (.ref x)] st σ Q ↔ G d 93 32 [some (.ref x)] (.ref x :: st) σ Q := gs_go f_93_31 rfl
theorem f_93_32 : ft 93 32 = some (68, .new 42, [0, 2, 263]) := rfl
theorem f_93_33 : ft 93 33 = some (71, .dup, []) := rfl
theorem s_93_33 {d : Nat} {σ : xS} {st : List Value} {Q : xR → xS → Prop} {l0 : Option Value} {x : Nat} : G d 93 33 [l0] (.ref x :: st) σ Q ↔ G d 93 34 [l0] (.ref x :: .ref x :: st) σ Q := gs_go f_93_33 rfl
theorem s_93_33i {d : Nat} {σ : xS} {st : List Value} {Q : xR → xS → Prop} {l0 : Option Value} {x : Int32} : G d 93 33 [l0] (.int x :: st) σ Q ↔ G d 93 34 [l0] (.int x :: .int x :: st) σ Q := gs_go f_93_33 rfl
theorem f_93_34 : ft 93 34 = some (72, .aload_n 0, []) := rfl
theorem s_93_34 {d : Nat} {σ : xS} {st : List Value} {Q : xR → xS → Prop} {x : Nat} : G d 93 34 [some (.ref x)] st σ Q ↔ G d 93 35 [some (.ref x)] (.ref x :: st) σ Q := gs_go f_93_34 rfl
theorem f_93_35 : ft 93 35 = some (73, .getfield 10, [7, 0, 0, 316]) := rfl
theorem s_93_35 {d : Nat} {t : yT} {st : List Value} {Q : xR → xS → Prop} {l0 : Option Value} {a : Nat} (ho : yisO 7 a) : G d 93 35 [l0] (.ref a :: st) (yemb t) Q ↔ G d 93 36 [l0] (.ref 1 :: st) (yemb t) Q := gs_getf (c := 7) (j := 0) (q := .c 1) f_93_35 ho rfl
theorem f_93_36 : ft 93 36 = some (76, .aload_n 0, []) := rfl
theorem s_93_36 {d : Nat} {σ : xS} {st : List Value} {Q : xR → xS → Prop} {x : Nat} : G d 93 36 [some (.ref x)] st σ Q ↔ G d 93 37 [some (.ref x)] (.ref x :: st) σ Q := gs_go f_93_36 rfl
theorem f_93_37 : ft 93 37 = some (77, .getfield 26, [7, 2, 0, 318]) := rfl
theorem s_93_37 {d : Nat} {t : yT} {st : List Value} {Q : xR → xS → Prop} {l0 : Option Value} {a : Nat} (ho : yisO 7 a) : G d 93 37 [l0] (.ref a :: st) (yemb t) Q ↔ G d 93 38 [l0] (.ref 7 :: st) (yemb t) Q := gs_getf (c := 7) (j := 2) (q := .c 7) f_93_37 ho rfl
theorem f_93_38 : ft 93 38 = some (80, .aload_n 0, []) := rfl
theorem s_93_38 {d : Nat} {σ : xS} {st : List Value} {Q : xR → xS → Prop} {x : Nat} : G d 93 38 [some (.ref x)] st σ Q ↔ G d 93 39 [some (.ref x)] (.ref x :: st) σ Q := gs_go f_93_38 rfl
theorem f_93_39 : ft 93 39 = some (81, .getfield 19, [7, 1, 0, 317]) := rfl
theorem s_93_39 {d : Nat} {t : yT} {st : List Value} {Q : xR → xS → Prop} {l0 : Option Value} {a : Nat} (ho : yisO 7 a) : G d 93 39 [l0] (.ref a :: st) (yemb t) Q ↔ G d 93 40 [l0] (.ref 3 :: st) (yemb t) Q := gs_getf (c := 7) (j := 1) (q := .c 3) f_93_39 ho rfl
theorem f_93_40 : ft 93 40 = some (84, .invokespecial 44, [8, 4, 2, 265]) := rfl
theorem s_93_40 {d : Nat} {t : yT} {st : List Value} {Q : xR → xS → Prop} {l0 : Option Value} {a0 : Nat} {a1 : Nat} {a2 : Nat} {a3 : Nat} (ho : yisO 2 a0) : G (d + 1) 93 40 [l0] (.ref a3 :: .ref a2 :: .ref a1 :: .ref a0 :: st) (yemb t) Q ↔ xcat st ≤ 8 ∧ Cl d 8 [.ref a0, .ref a1, .ref a2, .ref a3] (yemb t) (Gk (d + 1) 93 40 [l0] st Q) := gs_call f_93_40 ((xinv_call (i := 40) (n := 265) (ls := [l0]) (kind := 2) (σ := yemb t) (by decide)).trans (xcall_vi [.ref a3, .ref a2, .ref a1, .ref a0] rfl rfl (show (4 : Nat) ≤ 4 by decide) rfl ho))
theorem f_93_41 : ft 93 41 = some (87, .putfield 47, [7, 5, 0, 321]) := rfl
theorem f_93_42 : ft 93 42 = some (90, .aload_n 0, []) := rfl
theorem s_93_42 {d : Nat} {σ : xS} {st : List Value} {Q : xR → xS → Prop} {x : Nat} : G d 93 42 [some (.ref x)] st σ Q ↔ G d 93 43 [some (.ref x)] (.ref x :: st) σ Q := gs_go f_93_42 rfl
theorem f_93_43 : ft 93 43 = some (91, .new 51, [0, 1, 297]) := rfl
theorem f_93_44 : ft 93 44 = some (94, .dup, []) := rfl
theorem s_93_44 {d : Nat} {σ : xS} {st : List Value} {Q : xR → xS → Prop} {l0 : Option Value} {x : Nat} : G d 93 44 [l0] (.ref x :: st) σ Q ↔ G d 93 45 [l0] (.ref x :: .ref x :: st) σ Q := gs_go f_93_44 rfl
theorem s_93_44i {d : Nat} {σ : xS} {st : List Value} {Q : xR → xS → Prop} {l0 : Option Value} {x : Int32} : G d 93 44 [l0] (.int x :: st) σ Q ↔ G d 93 45 [l0] (.int x :: .int x :: st) σ Q := gs_go f_93_44 rfl
theorem f_93_45 : ft 93 45 = some (95, .invokespecial 53, [5, 1, 2, 299]) := rfl
theorem s_93_45 {d : Nat} {t : yT} {st : List Value} {Q : xR → xS → Prop} {l0 : Option Value} {a0 : Nat} (ho : yisO 1 a0) : G (d + 1) 93 45 [l0] (.ref a0 :: st) (yemb t) Q ↔ xcat st ≤ 8 ∧ Cl d 5 [.ref a0] (yemb t) (Gk (d + 1) 93 45 [l0] st Q) := gs_call f_93_45 ((xinv_call (i := 45) (n := 299) (ls := [l0]) (kind := 2) (σ := yemb t) (by decide)).trans (xcall_vi [.ref a0] rfl rfl (show (1 : Nat) ≤ 2 by decide) rfl ho))
theorem f_93_46 : ft 93 46 = some (98, .putfield 54, [7, 6, 0, 322]) := rfl
theorem f_93_47 : ft 93 47 = some (101, .aload_n 0, []) := rfl
theorem s_93_47 {d : Nat} {σ : xS} {st : List Value} {Q : xR → xS → Prop} {x : Nat} : G d 93 47 [some (.ref x)] st σ Q ↔ G d 93 48 [some (.ref x)] (.ref x :: st) σ Q := gs_go f_93_47 rfl
theorem f_93_48 : ft 93 48 = some (102, .new 23, [0, 4, 129]) := rfl
theorem f_93_49 : ft 93 49 = some (105, .dup, []) := rfl
theorem s_93_49 {d : Nat} {σ : xS} {st : List Value} {Q : xR → xS → Prop} {l0 : Option Value} {x : Nat} : G d 93 49 [l0] (.ref x :: st) σ Q ↔ G d 93 50 [l0] (.ref x :: .ref x :: st) σ Q := gs_go f_93_49 rfl
theorem s_93_49i {d : Nat} {σ : xS} {st : List Value} {Q : xR → xS → Prop} {l0 : Option Value} {x : Int32} : G d 93 49 [l0] (.int x :: st) σ Q ↔ G d 93 50 [l0] (.int x :: .int x :: st) σ Q := gs_go f_93_49 rfl
theorem f_93_50 : ft 93 50 = some (106, .invokespecial 25, [29, 1, 2, 131]) := rfl
theorem s_93_50 {d : Nat} {t : yT} {st : List Value} {Q : xR → xS → Prop} {l0 : Option Value} {a0 : Nat} (ho : yisO 4 a0) : G (d + 1) 93 50 [l0] (.ref a0 :: st) (yemb t) Q ↔ xcat st ≤ 8 ∧ Cl d 29 [.ref a0] (yemb t) (Gk (d + 1) 93 50 [l0] st Q) := gs_call f_93_50 ((xinv_call (i := 50) (n := 131) (ls := [l0]) (kind := 2) (σ := yemb t) (by decide)).trans (xcall_vi [.ref a0] rfl rfl (show (1 : Nat) ≤ 1 by decide) rfl ho))
theorem f_93_51 : ft 93 51 = some (109, .putfield 58, [7, 7, 0, 323]) := rfl
theorem f_93_52 : ft 93 52 = some (112, .aload_n 0, []) := rfl
theorem s_93_52 {d : Nat} {σ : xS} {st : List Value} {Q : xR → xS → Prop} {x : Nat} : G d 93 52 [some (.ref x)] st σ Q ↔ G d 93 53 [some (.ref x)] (.ref x :: st) σ Q := gs_go f_93_52 rfl
theorem f_93_53 : ft 93 53 = some (113, .new 23, [0, 4, 129]) := rfl
theorem f_93_54 : ft 93 54 = some (116, .dup, []) := rfl
theorem s_93_54 {d : Nat} {σ : xS} {st : List Value} {Q : xR → xS → Prop} {l0 : Option Value} {x : Nat} : G d 93 54 [l0] (.ref x :: st) σ Q ↔ G d 93 55 [l0] (.ref x :: .ref x :: st) σ Q := gs_go f_93_54 rfl
theorem s_93_54i {d : Nat} {σ : xS} {st : List Value} {Q : xR → xS → Prop} {l0 : Option Value} {x : Int32} : G d 93 54 [l0] (.int x :: st) σ Q ↔ G d 93 55 [l0] (.int x :: .int x :: st) σ Q := gs_go f_93_54 rfl
theorem f_93_55 : ft 93 55 = some (117, .invokespecial 25, [29, 1, 2, 131]) := rfl
theorem s_93_55 {d : Nat} {t : yT} {st : List Value} {Q : xR → xS → Prop} {l0 : Option Value} {a0 : Nat} (ho : yisO 4 a0) : G (d + 1) 93 55 [l0] (.ref a0 :: st) (yemb t) Q ↔ xcat st ≤ 8 ∧ Cl d 29 [.ref a0] (yemb t) (Gk (d + 1) 93 55 [l0] st Q) := gs_call f_93_55 ((xinv_call (i := 55) (n := 131) (ls := [l0]) (kind := 2) (σ := yemb t) (by decide)).trans (xcall_vi [.ref a0] rfl rfl (show (1 : Nat) ≤ 1 by decide) rfl ho))
theorem f_93_56 : ft 93 56 = some (120, .putfield 61, [7, 8, 0, 324]) := rfl
theorem f_93_57 : ft 93 57 = some (123, .aload_n 0, []) := rfl
theorem s_93_57 {d : Nat} {σ : xS} {st : List Value} {Q : xR → xS → Prop} {x : Nat} : G d 93 57 [some (.ref x)] st σ Q ↔ G d 93 58 [some (.ref x)] (.ref x :: st) σ Q := gs_go f_93_57 rfl
theorem f_93_58 : ft 93 58 = some (124, .iconst 0, []) := rfl
theorem s_93_58 {d : Nat} {σ : xS} {st : List Value} {Q : xR → xS → Prop} {l0 : Option Value} : G d 93 58 [l0] st σ Q ↔ G d 93 59 [l0] (.int (0) :: st) σ Q := gs_go f_93_58 rfl
theorem f_93_59 : ft 93 59 = some (125, .putfield 64, [7, 9, 0, 325]) := rfl
theorem s_93_59 {d : Nat} {t : yT} {st : List Value} {Q : xR → xS → Prop} {l0 : Option Value} {a : Nat} {x : Int32} (hb : ybo x) (ho : yisO 7 a) : G d 93 59 [l0] (.int x :: .ref a :: st) (yemb t) Q ↔ G d 93 60 [l0] st (yemb (t.s1 a 9 x)) Q := gs_putI (c := 7) (j := 9) f_93_59 (fun _ => rfl) hb (yfb hb) ho
theorem f_93_60 : ft 93 60 = some (128, .aload_n 0, []) := rfl
theorem s_93_60 {d : Nat} {σ : xS} {st : List Value} {Q : xR → xS → Prop} {x : Nat} : G d 93 60 [some (.ref x)] st σ Q ↔ G d 93 61 [some (.ref x)] (.ref x :: st) σ Q := gs_go f_93_60 rfl
theorem f_93_61 : ft 93 61 = some (129, .iconst 0, []) := rfl
theorem s_93_61 {d : Nat} {σ : xS} {st : List Value} {Q : xR → xS → Prop} {l0 : Option Value} : G d 93 61 [l0] st σ Q ↔ G d 93 62 [l0] (.int (0) :: st) σ Q := gs_go f_93_61 rfl
theorem f_93_62 : ft 93 62 = some (130, .putfield 68, [7, 10, 0, 326]) := rfl
theorem s_93_62 {d : Nat} {t : yT} {st : List Value} {Q : xR → xS → Prop} {l0 : Option Value} {a : Nat} {x : Int32} (hb : ybo x) (ho : yisO 7 a) : G d 93 62 [l0] (.int x :: .ref a :: st) (yemb t) Q ↔ G d 93 63 [l0] st (yemb (t.s1 a 10 x)) Q := gs_putI (c := 7) (j := 10) f_93_62 (fun _ => rfl) hb (yfb hb) ho
theorem f_93_63 : ft 93 63 = some (133, .aload_n 0, []) := rfl
theorem s_93_63 {d : Nat} {σ : xS} {st : List Value} {Q : xR → xS → Prop} {x : Nat} : G d 93 63 [some (.ref x)] st σ Q ↔ G d 93 64 [some (.ref x)] (.ref x :: st) σ Q := gs_go f_93_63 rfl
theorem f_93_64 : ft 93 64 = some (134, .iconst (-1), []) := rfl
theorem s_93_64 {d : Nat} {σ : xS} {st : List Value} {Q : xR → xS → Prop} {l0 : Option Value} : G d 93 64 [l0] st σ Q ↔ G d 93 65 [l0] (.int (-1) :: st) σ Q := gs_go f_93_64 rfl
theorem f_93_65 : ft 93 65 = some (135, .putfield 71, [7, 11, 0, 327]) := rfl
theorem s_93_65 {d : Nat} {t : yT} {st : List Value} {Q : xR → xS → Prop} {l0 : Option Value} {a : Nat} {x : Int32} (ho : yisO 7 a) : G d 93 65 [l0] (.int x :: .ref a :: st) (yemb t) Q ↔ G d 93 66 [l0] st (yemb (t.s1 a 11 x)) Q := gs_putI (c := 7) (j := 11) f_93_65 (fun _ => rfl) rfl rfl ho
theorem f_93_66 : ft 93 66 = some (138, .aload_n 0, []) := rfl
theorem s_93_66 {d : Nat} {σ : xS} {st : List Value} {Q : xR → xS → Prop} {x : Nat} : G d 93 66 [some (.ref x)] st σ Q ↔ G d 93 67 [some (.ref x)] (.ref x :: st) σ Q := gs_go f_93_66 rfl
theorem f_93_67 : ft 93 67 = some (139, .iconst 0, []) := rfl
theorem s_93_67 {d : Nat} {σ : xS} {st : List Value} {Q : xR → xS → Prop} {l0 : Option Value} : G d 93 67 [l0] st σ Q ↔ G d 93 68 [l0] (.int (0) :: st) σ Q := gs_go f_93_67 rfl
theorem f_93_68 : ft 93 68 = some (140, .putfield 75, [7, 12, 0, 328]) := rfl
theorem s_93_68 {d : Nat} {t : yT} {st : List Value} {Q : xR → xS → Prop} {l0 : Option Value} {a : Nat} {x : Int32} (ho : yisO 7 a) : G d 93 68 [l0] (.int x :: .ref a :: st) (yemb t) Q ↔ G d 93 69 [l0] st (yemb (t.s1 a 12 x)) Q := gs_putI (c := 7) (j := 12) f_93_68 (fun _ => rfl) rfl rfl ho
theorem f_93_69 : ft 93 69 = some (143, .return_, []) := rfl
theorem s_93_69 {d : Nat} {σ : xS} {ls : xL} {Q : xR → xS → Prop} : G d 93 69 ls [] σ Q ↔ Q (.inl none) σ := gs_ret f_93_69 rfl
theorem f_94_0 : ft 94 0 = some (0, .aload_n 0, []) := rfl
theorem s_94_0 {d : Nat} {σ : xS} {st : List Value} {Q : xR → xS → Prop} {l1 l2 l3 l4 l5 : Option Value} {x : Nat} : G d 94 0 [some (.ref x), l1, l2, l3, l4, l5] st σ Q ↔ G d 94 1 [some (.ref x), l1, l2, l3, l4, l5] (.ref x :: st) σ Q := gs_go f_94_0 rfl
theorem f_94_1 : ft 94 1 = some (1, .getfield 10, [7, 0, 0, 316]) := rfl
theorem s_94_1 {d : Nat} {t : yT} {st : List Value} {Q : xR → xS → Prop} {l0 l1 l2 l3 l4 l5 : Option Value} {a : Nat} (ho : yisO 7 a) : G d 94 1 [l0, l1, l2, l3, l4, l5] (.ref a :: st) (yemb t) Q ↔ G d 94 2 [l0, l1, l2, l3, l4, l5] (.ref 1 :: st) (yemb t) Q := gs_getf (c := 7) (j := 0) (q := .c 1) f_94_1 ho rfl
theorem f_94_2 : ft 94 2 = some (4, .invokevirtual 78, [74, 1, 0, 590]) := rfl
theorem s_94_2 {d : Nat} {t : yT} {st : List Value} {Q : xR → xS → Prop} {l0 l1 l2 l3 l4 l5 : Option Value} {a0 : Nat} (ho : yisO 6 a0) : G (d + 1) 94 2 [l0, l1, l2, l3, l4, l5] (.ref a0 :: st) (yemb t) Q ↔ xcat st ≤ 8 ∧ Cl d 74 [.ref a0] (yemb t) (Gk (d + 1) 94 2 [l0, l1, l2, l3, l4, l5] st Q) := gs_call f_94_2 ((xinv_call (i := 2) (n := 590) (ls := [l0, l1, l2, l3, l4, l5]) (kind := 0) (σ := yemb t) (by decide)).trans (xcall_vi [.ref a0] rfl rfl (show (1 : Nat) ≤ 1 by decide) rfl ho))
theorem f_94_3 : ft 94 3 = some (7, .bipush 20, []) := rfl
theorem s_94_3 {d : Nat} {σ : xS} {st : List Value} {Q : xR → xS → Prop} {l0 l1 l2 l3 l4 l5 : Option Value} : G d 94 3 [l0, l1, l2, l3, l4, l5] st σ Q ↔ G d 94 4 [l0, l1, l2, l3, l4, l5] (.int (20) :: st) σ Q := gs_go f_94_3 rfl
theorem f_94_4 : ft 94 4 = some (9, .iadd, []) := rfl
theorem s_94_4 {d : Nat} {σ : xS} {st : List Value} {Q : xR → xS → Prop} {l0 l1 l2 l3 l4 l5 : Option Value} {x y : Int32} : G d 94 4 [l0, l1, l2, l3, l4, l5] (.int y :: .int x :: st) σ Q ↔ G d 94 5 [l0, l1, l2, l3, l4, l5] (.int (x + y) :: st) σ Q := gs_go f_94_4 rfl
theorem f_94_5 : ft 94 5 = some (10, .sipush 600, []) := rfl
theorem s_94_5 {d : Nat} {σ : xS} {st : List Value} {Q : xR → xS → Prop} {l0 l1 l2 l3 l4 l5 : Option Value} : G d 94 5 [l0, l1, l2, l3, l4, l5] st σ Q ↔ G d 94 6 [l0, l1, l2, l3, l4, l5] (.int (600) :: st) σ Q := gs_go f_94_5 rfl
theorem f_94_6 : ft 94 6 = some (13, .if_icmp .le 5, [9]) := rfl
theorem s_94_6 {d : Nat} {σ : xS} {st : List Value} {Q : xR → xS → Prop} {l0 l1 l2 l3 l4 l5 : Option Value} {x y : Int32} : G d 94 6 [l0, l1, l2, l3, l4, l5] (.int y :: .int x :: st) σ Q ↔ if x ≤ y then G d 94 9 [l0, l1, l2, l3, l4, l5] st σ Q else G d 94 7 [l0, l1, l2, l3, l4, l5] st σ Q := gs_if f_94_6 rfl
theorem f_94_7 : ft 94 7 = some (16, .iconst (-1), []) := rfl
theorem s_94_7 {d : Nat} {σ : xS} {st : List Value} {Q : xR → xS → Prop} {l0 l1 l2 l3 l4 l5 : Option Value} : G d 94 7 [l0, l1, l2, l3, l4, l5] st σ Q ↔ G d 94 8 [l0, l1, l2, l3, l4, l5] (.int (-1) :: st) σ Q := gs_go f_94_7 rfl
theorem f_94_8 : ft 94 8 = some (17, .ireturn, []) := rfl
theorem s_94_8 {d : Nat} {σ : xS} {ls : xL} {Q : xR → xS → Prop} {x : Int32} : G d 94 8 ls [.int x] σ Q ↔ Q (.inl (some (.int x))) σ := gs_reti f_94_8 rfl
theorem f_94_9 : ft 94 9 = some (18, .aload_n 0, []) := rfl
theorem s_94_9 {d : Nat} {σ : xS} {st : List Value} {Q : xR → xS → Prop} {l1 l2 l3 l4 l5 : Option Value} {x : Nat} : G d 94 9 [some (.ref x), l1, l2, l3, l4, l5] st σ Q ↔ G d 94 10 [some (.ref x), l1, l2, l3, l4, l5] (.ref x :: st) σ Q := gs_go f_94_9 rfl
theorem f_94_10 : ft 94 10 = some (19, .getfield 10, [7, 0, 0, 316]) := rfl
theorem s_94_10 {d : Nat} {t : yT} {st : List Value} {Q : xR → xS → Prop} {l0 l1 l2 l3 l4 l5 : Option Value} {a : Nat} (ho : yisO 7 a) : G d 94 10 [l0, l1, l2, l3, l4, l5] (.ref a :: st) (yemb t) Q ↔ G d 94 11 [l0, l1, l2, l3, l4, l5] (.ref 1 :: st) (yemb t) Q := gs_getf (c := 7) (j := 0) (q := .c 1) f_94_10 ho rfl
theorem f_94_11 : ft 94 11 = some (22, .iload_n 1, []) := rfl
theorem s_94_11 {d : Nat} {σ : xS} {st : List Value} {Q : xR → xS → Prop} {l0 l2 l3 l4 l5 : Option Value} {x : Int32} : G d 94 11 [l0, some (.int x), l2, l3, l4, l5] st σ Q ↔ G d 94 12 [l0, some (.int x), l2, l3, l4, l5] (.int x :: st) σ Q := gs_go f_94_11 rfl
theorem f_94_12 : ft 94 12 = some (23, .invokevirtual 82, [77, 2, 0, 1277]) := rfl
theorem s_94_12 {d : Nat} {t : yT} {st : List Value} {Q : xR → xS → Prop} {l0 l1 l2 l3 l4 l5 : Option Value} {a0 : Nat} {a1 : Int32} (ho : yisO 6 a0) : G (d + 1) 94 12 [l0, l1, l2, l3, l4, l5] (.int a1 :: .ref a0 :: st) (yemb t) Q ↔ xcat st ≤ 8 ∧ Cl d 77 [.ref a0, .int a1] (yemb t) (Gk (d + 1) 94 12 [l0, l1, l2, l3, l4, l5] st Q) := gs_call f_94_12 ((xinv_call (i := 12) (n := 1277) (ls := [l0, l1, l2, l3, l4, l5]) (kind := 0) (σ := yemb t) (by decide)).trans (xcall_vi [.int a1, .ref a0] rfl rfl (show (2 : Nat) ≤ 3 by decide) rfl ho))
theorem f_94_13 : ft 94 13 = some (26, .aload_n 0, []) := rfl
theorem s_94_13 {d : Nat} {σ : xS} {st : List Value} {Q : xR → xS → Prop} {l1 l2 l3 l4 l5 : Option Value} {x : Nat} : G d 94 13 [some (.ref x), l1, l2, l3, l4, l5] st σ Q ↔ G d 94 14 [some (.ref x), l1, l2, l3, l4, l5] (.ref x :: st) σ Q := gs_go f_94_13 rfl
theorem f_94_14 : ft 94 14 = some (27, .getfield 10, [7, 0, 0, 316]) := rfl
theorem s_94_14 {d : Nat} {t : yT} {st : List Value} {Q : xR → xS → Prop} {l0 l1 l2 l3 l4 l5 : Option Value} {a : Nat} (ho : yisO 7 a) : G d 94 14 [l0, l1, l2, l3, l4, l5] (.ref a :: st) (yemb t) Q ↔ G d 94 15 [l0, l1, l2, l3, l4, l5] (.ref 1 :: st) (yemb t) Q := gs_getf (c := 7) (j := 0) (q := .c 1) f_94_14 ho rfl
theorem f_94_15 : ft 94 15 = some (30, .iload_n 2, []) := rfl
theorem s_94_15 {d : Nat} {σ : xS} {st : List Value} {Q : xR → xS → Prop} {l0 l1 l3 l4 l5 : Option Value} {x : Int32} : G d 94 15 [l0, l1, some (.int x), l3, l4, l5] st σ Q ↔ G d 94 16 [l0, l1, some (.int x), l3, l4, l5] (.int x :: st) σ Q := gs_go f_94_15 rfl
theorem f_94_16 : ft 94 16 = some (31, .invokevirtual 82, [77, 2, 0, 1277]) := rfl
theorem s_94_16 {d : Nat} {t : yT} {st : List Value} {Q : xR → xS → Prop} {l0 l1 l2 l3 l4 l5 : Option Value} {a0 : Nat} {a1 : Int32} (ho : yisO 6 a0) : G (d + 1) 94 16 [l0, l1, l2, l3, l4, l5] (.int a1 :: .ref a0 :: st) (yemb t) Q ↔ xcat st ≤ 8 ∧ Cl d 77 [.ref a0, .int a1] (yemb t) (Gk (d + 1) 94 16 [l0, l1, l2, l3, l4, l5] st Q) := gs_call f_94_16 ((xinv_call (i := 16) (n := 1277) (ls := [l0, l1, l2, l3, l4, l5]) (kind := 0) (σ := yemb t) (by decide)).trans (xcall_vi [.int a1, .ref a0] rfl rfl (show (2 : Nat) ≤ 3 by decide) rfl ho))
theorem f_94_17 : ft 94 17 = some (34, .aload_n 0, []) := rfl
theorem s_94_17 {d : Nat} {σ : xS} {st : List Value} {Q : xR → xS → Prop} {l1 l2 l3 l4 l5 : Option Value} {x : Nat} : G d 94 17 [some (.ref x), l1, l2, l3, l4, l5] st σ Q ↔ G d 94 18 [some (.ref x), l1, l2, l3, l4, l5] (.ref x :: st) σ Q := gs_go f_94_17 rfl
theorem f_94_18 : ft 94 18 = some (35, .getfield 10, [7, 0, 0, 316]) := rfl
theorem s_94_18 {d : Nat} {t : yT} {st : List Value} {Q : xR → xS → Prop} {l0 l1 l2 l3 l4 l5 : Option Value} {a : Nat} (ho : yisO 7 a) : G d 94 18 [l0, l1, l2, l3, l4, l5] (.ref a :: st) (yemb t) Q ↔ G d 94 19 [l0, l1, l2, l3, l4, l5] (.ref 1 :: st) (yemb t) Q := gs_getf (c := 7) (j := 0) (q := .c 1) f_94_18 ho rfl
theorem f_94_19 : ft 94 19 = some (38, .iload_n 3, []) := rfl
theorem s_94_19 {d : Nat} {σ : xS} {st : List Value} {Q : xR → xS → Prop} {l0 l1 l2 l4 l5 : Option Value} {x : Int32} : G d 94 19 [l0, l1, l2, some (.int x), l4, l5] st σ Q ↔ G d 94 20 [l0, l1, l2, some (.int x), l4, l5] (.int x :: st) σ Q := gs_go f_94_19 rfl
theorem f_94_20 : ft 94 20 = some (39, .invokevirtual 82, [77, 2, 0, 1277]) := rfl
theorem s_94_20 {d : Nat} {t : yT} {st : List Value} {Q : xR → xS → Prop} {l0 l1 l2 l3 l4 l5 : Option Value} {a0 : Nat} {a1 : Int32} (ho : yisO 6 a0) : G (d + 1) 94 20 [l0, l1, l2, l3, l4, l5] (.int a1 :: .ref a0 :: st) (yemb t) Q ↔ xcat st ≤ 8 ∧ Cl d 77 [.ref a0, .int a1] (yemb t) (Gk (d + 1) 94 20 [l0, l1, l2, l3, l4, l5] st Q) := gs_call f_94_20 ((xinv_call (i := 20) (n := 1277) (ls := [l0, l1, l2, l3, l4, l5]) (kind := 0) (σ := yemb t) (by decide)).trans (xcall_vi [.int a1, .ref a0] rfl rfl (show (2 : Nat) ≤ 3 by decide) rfl ho))
theorem f_94_21 : ft 94 21 = some (42, .aload_n 0, []) := rfl
theorem s_94_21 {d : Nat} {σ : xS} {st : List Value} {Q : xR → xS → Prop} {l1 l2 l3 l4 l5 : Option Value} {x : Nat} : G d 94 21 [some (.ref x), l1, l2, l3, l4, l5] st σ Q ↔ G d 94 22 [some (.ref x), l1, l2, l3, l4, l5] (.ref x :: st) σ Q := gs_go f_94_21 rfl
theorem f_94_22 : ft 94 22 = some (43, .getfield 10, [7, 0, 0, 316]) := rfl
theorem s_94_22 {d : Nat} {t : yT} {st : List Value} {Q : xR → xS → Prop} {l0 l1 l2 l3 l4 l5 : Option Value} {a : Nat} (ho : yisO 7 a) : G d 94 22 [l0, l1, l2, l3, l4, l5] (.ref a :: st) (yemb t) Q ↔ G d 94 23 [l0, l1, l2, l3, l4, l5] (.ref 1 :: st) (yemb t) Q := gs_getf (c := 7) (j := 0) (q := .c 1) f_94_22 ho rfl
theorem f_94_23 : ft 94 23 = some (46, .iload 4, []) := rfl
theorem s_94_23 {d : Nat} {σ : xS} {st : List Value} {Q : xR → xS → Prop} {l0 l1 l2 l3 l5 : Option Value} {x : Int32} : G d 94 23 [l0, l1, l2, l3, some (.int x), l5] st σ Q ↔ G d 94 24 [l0, l1, l2, l3, some (.int x), l5] (.int x :: st) σ Q := gs_go f_94_23 rfl
theorem f_94_24 : ft 94 24 = some (48, .invokevirtual 82, [77, 2, 0, 1277]) := rfl
theorem s_94_24 {d : Nat} {t : yT} {st : List Value} {Q : xR → xS → Prop} {l0 l1 l2 l3 l4 l5 : Option Value} {a0 : Nat} {a1 : Int32} (ho : yisO 6 a0) : G (d + 1) 94 24 [l0, l1, l2, l3, l4, l5] (.int a1 :: .ref a0 :: st) (yemb t) Q ↔ xcat st ≤ 8 ∧ Cl d 77 [.ref a0, .int a1] (yemb t) (Gk (d + 1) 94 24 [l0, l1, l2, l3, l4, l5] st Q) := gs_call f_94_24 ((xinv_call (i := 24) (n := 1277) (ls := [l0, l1, l2, l3, l4, l5]) (kind := 0) (σ := yemb t) (by decide)).trans (xcall_vi [.int a1, .ref a0] rfl rfl (show (2 : Nat) ≤ 3 by decide) rfl ho))
theorem f_94_25 : ft 94 25 = some (51, .aload_n 0, []) := rfl
theorem s_94_25 {d : Nat} {σ : xS} {st : List Value} {Q : xR → xS → Prop} {l1 l2 l3 l4 l5 : Option Value} {x : Nat} : G d 94 25 [some (.ref x), l1, l2, l3, l4, l5] st σ Q ↔ G d 94 26 [some (.ref x), l1, l2, l3, l4, l5] (.ref x :: st) σ Q := gs_go f_94_25 rfl
theorem f_94_26 : ft 94 26 = some (52, .getfield 10, [7, 0, 0, 316]) := rfl
theorem s_94_26 {d : Nat} {t : yT} {st : List Value} {Q : xR → xS → Prop} {l0 l1 l2 l3 l4 l5 : Option Value} {a : Nat} (ho : yisO 7 a) : G d 94 26 [l0, l1, l2, l3, l4, l5] (.ref a :: st) (yemb t) Q ↔ G d 94 27 [l0, l1, l2, l3, l4, l5] (.ref 1 :: st) (yemb t) Q := gs_getf (c := 7) (j := 0) (q := .c 1) f_94_26 ho rfl
theorem f_94_27 : ft 94 27 = some (55, .iload 5, []) := rfl
theorem s_94_27 {d : Nat} {σ : xS} {st : List Value} {Q : xR → xS → Prop} {l0 l1 l2 l3 l4 : Option Value} {x : Int32} : G d 94 27 [l0, l1, l2, l3, l4, some (.int x)] st σ Q ↔ G d 94 28 [l0, l1, l2, l3, l4, some (.int x)] (.int x :: st) σ Q := gs_go f_94_27 rfl
theorem f_94_28 : ft 94 28 = some (57, .invokevirtual 82, [77, 2, 0, 1277]) := rfl
theorem s_94_28 {d : Nat} {t : yT} {st : List Value} {Q : xR → xS → Prop} {l0 l1 l2 l3 l4 l5 : Option Value} {a0 : Nat} {a1 : Int32} (ho : yisO 6 a0) : G (d + 1) 94 28 [l0, l1, l2, l3, l4, l5] (.int a1 :: .ref a0 :: st) (yemb t) Q ↔ xcat st ≤ 8 ∧ Cl d 77 [.ref a0, .int a1] (yemb t) (Gk (d + 1) 94 28 [l0, l1, l2, l3, l4, l5] st Q) := gs_call f_94_28 ((xinv_call (i := 28) (n := 1277) (ls := [l0, l1, l2, l3, l4, l5]) (kind := 0) (σ := yemb t) (by decide)).trans (xcall_vi [.int a1, .ref a0] rfl rfl (show (2 : Nat) ≤ 3 by decide) rfl ho))
theorem f_94_29 : ft 94 29 = some (60, .aload_n 0, []) := rfl
theorem s_94_29 {d : Nat} {σ : xS} {st : List Value} {Q : xR → xS → Prop} {l1 l2 l3 l4 l5 : Option Value} {x : Nat} : G d 94 29 [some (.ref x), l1, l2, l3, l4, l5] st σ Q ↔ G d 94 30 [some (.ref x), l1, l2, l3, l4, l5] (.ref x :: st) σ Q := gs_go f_94_29 rfl
theorem f_94_30 : ft 94 30 = some (61, .getfield 10, [7, 0, 0, 316]) := rfl
theorem s_94_30 {d : Nat} {t : yT} {st : List Value} {Q : xR → xS → Prop} {l0 l1 l2 l3 l4 l5 : Option Value} {a : Nat} (ho : yisO 7 a) : G d 94 30 [l0, l1, l2, l3, l4, l5] (.ref a :: st) (yemb t) Q ↔ G d 94 31 [l0, l1, l2, l3, l4, l5] (.ref 1 :: st) (yemb t) Q := gs_getf (c := 7) (j := 0) (q := .c 1) f_94_30 ho rfl
theorem f_94_31 : ft 94 31 = some (64, .invokevirtual 78, [74, 1, 0, 590]) := rfl
theorem s_94_31 {d : Nat} {t : yT} {st : List Value} {Q : xR → xS → Prop} {l0 l1 l2 l3 l4 l5 : Option Value} {a0 : Nat} (ho : yisO 6 a0) : G (d + 1) 94 31 [l0, l1, l2, l3, l4, l5] (.ref a0 :: st) (yemb t) Q ↔ xcat st ≤ 8 ∧ Cl d 74 [.ref a0] (yemb t) (Gk (d + 1) 94 31 [l0, l1, l2, l3, l4, l5] st Q) := gs_call f_94_31 ((xinv_call (i := 31) (n := 590) (ls := [l0, l1, l2, l3, l4, l5]) (kind := 0) (σ := yemb t) (by decide)).trans (xcall_vi [.ref a0] rfl rfl (show (1 : Nat) ≤ 1 by decide) rfl ho))
theorem f_94_32 : ft 94 32 = some (67, .ireturn, []) := rfl
theorem s_94_32 {d : Nat} {σ : xS} {ls : xL} {Q : xR → xS → Prop} {x : Int32} : G d 94 32 ls [.int x] σ Q ↔ Q (.inl (some (.int x))) σ := gs_reti f_94_32 rfl
theorem f_95_0 : ft 95 0 = some (0, .iload_n 1, []) := rfl
theorem s_95_0 {d : Nat} {σ : xS} {st : List Value} {Q : xR → xS → Prop} {l0 l2 : Option Value} {x : Int32} : G d 95 0 [l0, some (.int x), l2] st σ Q ↔ G d 95 1 [l0, some (.int x), l2] (.int x :: st) σ Q := gs_go f_95_0 rfl
theorem f_95_1 : ft 95 1 = some (1, .ifCond .lt 14, [7]) := rfl
theorem s_95_1 {d : Nat} {σ : xS} {st : List Value} {Q : xR → xS → Prop} {l0 l1 l2 : Option Value} {x : Int32} : G d 95 1 [l0, l1, l2] (.int x :: st) σ Q ↔ if x < 0 then G d 95 7 [l0, l1, l2] st σ Q else G d 95 2 [l0, l1, l2] st σ Q := gs_if f_95_1 rfl
theorem f_95_2 : ft 95 2 = some (4, .iload_n 1, []) := rfl
theorem s_95_2 {d : Nat} {σ : xS} {st : List Value} {Q : xR → xS → Prop} {l0 l2 : Option Value} {x : Int32} : G d 95 2 [l0, some (.int x), l2] st σ Q ↔ G d 95 3 [l0, some (.int x), l2] (.int x :: st) σ Q := gs_go f_95_2 rfl
theorem f_95_3 : ft 95 3 = some (5, .aload_n 0, []) := rfl
theorem s_95_3 {d : Nat} {σ : xS} {st : List Value} {Q : xR → xS → Prop} {l1 l2 : Option Value} {x : Nat} : G d 95 3 [some (.ref x), l1, l2] st σ Q ↔ G d 95 4 [some (.ref x), l1, l2] (.ref x :: st) σ Q := gs_go f_95_3 rfl
theorem f_95_4 : ft 95 4 = some (6, .getfield 10, [7, 0, 0, 316]) := rfl
theorem s_95_4 {d : Nat} {t : yT} {st : List Value} {Q : xR → xS → Prop} {l0 l1 l2 : Option Value} {a : Nat} (ho : yisO 7 a) : G d 95 4 [l0, l1, l2] (.ref a :: st) (yemb t) Q ↔ G d 95 5 [l0, l1, l2] (.ref 1 :: st) (yemb t) Q := gs_getf (c := 7) (j := 0) (q := .c 1) f_95_4 ho rfl
theorem f_95_5 : ft 95 5 = some (9, .invokevirtual 78, [74, 1, 0, 590]) := rfl
theorem s_95_5 {d : Nat} {t : yT} {st : List Value} {Q : xR → xS → Prop} {l0 l1 l2 : Option Value} {a0 : Nat} (ho : yisO 6 a0) : G (d + 1) 95 5 [l0, l1, l2] (.ref a0 :: st) (yemb t) Q ↔ xcat st ≤ 8 ∧ Cl d 74 [.ref a0] (yemb t) (Gk (d + 1) 95 5 [l0, l1, l2] st Q) := gs_call f_95_5 ((xinv_call (i := 5) (n := 590) (ls := [l0, l1, l2]) (kind := 0) (σ := yemb t) (by decide)).trans (xcall_vi [.ref a0] rfl rfl (show (1 : Nat) ≤ 1 by decide) rfl ho))
theorem f_95_6 : ft 95 6 = some (12, .if_icmp .le 11, [11]) := rfl
theorem s_95_6 {d : Nat} {σ : xS} {st : List Value} {Q : xR → xS → Prop} {l0 l1 l2 : Option Value} {x y : Int32} : G d 95 6 [l0, l1, l2] (.int y :: .int x :: st) σ Q ↔ if x ≤ y then G d 95 11 [l0, l1, l2] st σ Q else G d 95 7 [l0, l1, l2] st σ Q := gs_if f_95_6 rfl
theorem f_95_7 : ft 95 7 = some (15, .new 86, [1, 0, 594, 88]) := rfl
theorem s_95_7 {d : Nat} {σ : xS} {ls : xL} {st : List Value} {Q : xR → xS → Prop} : G d 95 7 ls st σ Q ↔ (xcat st ≤ 8 ∧ σ.2.1.1 < 900000) ∧ Q (.inr 0) (xbump (.inr 0) σ) := gs_thr (e := 0) f_95_7
theorem f_95_8 : ft 95 8 = some (18, .dup, []) := rfl
theorem s_95_8 {d : Nat} {σ : xS} {st : List Value} {Q : xR → xS → Prop} {l0 l1 l2 : Option Value} {x : Nat} : G d 95 8 [l0, l1, l2] (.ref x :: st) σ Q ↔ G d 95 9 [l0, l1, l2] (.ref x :: .ref x :: st) σ Q := gs_go f_95_8 rfl
theorem s_95_8i {d : Nat} {σ : xS} {st : List Value} {Q : xR → xS → Prop} {l0 l1 l2 : Option Value} {x : Int32} : G d 95 8 [l0, l1, l2] (.int x :: st) σ Q ↔ G d 95 9 [l0, l1, l2] (.int x :: .int x :: st) σ Q := gs_go f_95_8 rfl
theorem f_95_9 : ft 95 9 = some (19, .invokespecial 88, [0, 1, 23, 636]) := rfl
theorem f_95_10 : ft 95 10 = some (22, .athrow, []) := rfl
theorem f_95_11 : ft 95 11 = some (23, .aload_n 0, []) := rfl
theorem s_95_11 {d : Nat} {σ : xS} {st : List Value} {Q : xR → xS → Prop} {l1 l2 : Option Value} {x : Nat} : G d 95 11 [some (.ref x), l1, l2] st σ Q ↔ G d 95 12 [some (.ref x), l1, l2] (.ref x :: st) σ Q := gs_go f_95_11 rfl
theorem f_95_12 : ft 95 12 = some (24, .getfield 10, [7, 0, 0, 316]) := rfl
theorem s_95_12 {d : Nat} {t : yT} {st : List Value} {Q : xR → xS → Prop} {l0 l1 l2 : Option Value} {a : Nat} (ho : yisO 7 a) : G d 95 12 [l0, l1, l2] (.ref a :: st) (yemb t) Q ↔ G d 95 13 [l0, l1, l2] (.ref 1 :: st) (yemb t) Q := gs_getf (c := 7) (j := 0) (q := .c 1) f_95_12 ho rfl
theorem f_95_13 : ft 95 13 = some (27, .iload_n 1, []) := rfl
theorem s_95_13 {d : Nat} {σ : xS} {st : List Value} {Q : xR → xS → Prop} {l0 l2 : Option Value} {x : Int32} : G d 95 13 [l0, some (.int x), l2] st σ Q ↔ G d 95 14 [l0, some (.int x), l2] (.int x :: st) σ Q := gs_go f_95_13 rfl
theorem f_95_14 : ft 95 14 = some (28, .invokevirtual 89, [79, 2, 0, 659]) := rfl
theorem s_95_14 {d : Nat} {t : yT} {st : List Value} {Q : xR → xS → Prop} {l0 l1 l2 : Option Value} {a0 : Nat} {a1 : Int32} (ho : yisO 6 a0) : G (d + 1) 95 14 [l0, l1, l2] (.int a1 :: .ref a0 :: st) (yemb t) Q ↔ xcat st ≤ 8 ∧ Cl d 79 [.ref a0, .int a1] (yemb t) (Gk (d + 1) 95 14 [l0, l1, l2] st Q) := gs_call f_95_14 ((xinv_call (i := 14) (n := 659) (ls := [l0, l1, l2]) (kind := 0) (σ := yemb t) (by decide)).trans (xcall_vi [.int a1, .ref a0] rfl rfl (show (2 : Nat) ≤ 2 by decide) rfl ho))
theorem f_95_15 : ft 95 15 = some (31, .aload_n 0, []) := rfl
theorem s_95_15 {d : Nat} {σ : xS} {st : List Value} {Q : xR → xS → Prop} {l1 l2 : Option Value} {x : Nat} : G d 95 15 [some (.ref x), l1, l2] st σ Q ↔ G d 95 16 [some (.ref x), l1, l2] (.ref x :: st) σ Q := gs_go f_95_15 rfl
theorem f_95_16 : ft 95 16 = some (32, .getfield 38, [7, 4, 0, 320]) := rfl
theorem s_95_16 {d : Nat} {t : yT} {st : List Value} {Q : xR → xS → Prop} {l0 l1 l2 : Option Value} {a : Nat} (ho : yisO 7 a) : G d 95 16 [l0, l1, l2] (.ref a :: st) (yemb t) Q ↔ G d 95 17 [l0, l1, l2] (.ref 31 :: st) (yemb t) Q := gs_getf (c := 7) (j := 4) (q := .c 31) f_95_16 ho rfl
theorem f_95_17 : ft 95 17 = some (35, .invokevirtual 92, [21, 1, 0, 680]) := rfl
theorem s_95_17 {d : Nat} {t : yT} {st : List Value} {Q : xR → xS → Prop} {l0 l1 l2 : Option Value} {a0 : Nat} (ho : yisO 3 a0) : G (d + 1) 95 17 [l0, l1, l2] (.ref a0 :: st) (yemb t) Q ↔ xcat st ≤ 8 ∧ Cl d 21 [.ref a0] (yemb t) (Gk (d + 1) 95 17 [l0, l1, l2] st Q) := gs_call f_95_17 ((xinv_call (i := 17) (n := 680) (ls := [l0, l1, l2]) (kind := 0) (σ := yemb t) (by decide)).trans (xcall_vi [.ref a0] rfl rfl (show (1 : Nat) ≤ 2 by decide) rfl ho))
theorem f_95_18 : ft 95 18 = some (38, .istore_n 2, []) := rfl
theorem s_95_18 {d : Nat} {σ : xS} {st : List Value} {Q : xR → xS → Prop} {l0 l1 l2 : Option Value} {x : Int32} : G d 95 18 [l0, l1, l2] (.int x :: st) σ Q ↔ G d 95 19 [l0, ykl l1, some (.int x)] st σ Q := by
  cases l1 with
  | none => exact gs_go f_95_18 rfl
  | some v => cases v <;> exact gs_go f_95_18 rfl
theorem f_95_19 : ft 95 19 = some (39, .aload_n 0, []) := rfl
theorem s_95_19 {d : Nat} {σ : xS} {st : List Value} {Q : xR → xS → Prop} {l1 l2 : Option Value} {x : Nat} : G d 95 19 [some (.ref x), l1, l2] st σ Q ↔ G d 95 20 [some (.ref x), l1, l2] (.ref x :: st) σ Q := gs_go f_95_19 rfl
theorem f_95_20 : ft 95 20 = some (40, .getfield 10, [7, 0, 0, 316]) := rfl
theorem s_95_20 {d : Nat} {t : yT} {st : List Value} {Q : xR → xS → Prop} {l0 l1 l2 : Option Value} {a : Nat} (ho : yisO 7 a) : G d 95 20 [l0, l1, l2] (.ref a :: st) (yemb t) Q ↔ G d 95 21 [l0, l1, l2] (.ref 1 :: st) (yemb t) Q := gs_getf (c := 7) (j := 0) (q := .c 1) f_95_20 ho rfl
theorem f_95_21 : ft 95 21 = some (43, .invokevirtual 96, [78, 1, 0, 879]) := rfl
theorem s_95_21 {d : Nat} {t : yT} {st : List Value} {Q : xR → xS → Prop} {l0 l1 l2 : Option Value} {a0 : Nat} (ho : yisO 6 a0) : G (d + 1) 95 21 [l0, l1, l2] (.ref a0 :: st) (yemb t) Q ↔ xcat st ≤ 8 ∧ Cl d 78 [.ref a0] (yemb t) (Gk (d + 1) 95 21 [l0, l1, l2] st Q) := gs_call f_95_21 ((xinv_call (i := 21) (n := 879) (ls := [l0, l1, l2]) (kind := 0) (σ := yemb t) (by decide)).trans (xcall_vi [.ref a0] rfl rfl (show (1 : Nat) ≤ 1 by decide) rfl ho))
theorem f_95_22 : ft 95 22 = some (46, .aload_n 0, []) := rfl
theorem s_95_22 {d : Nat} {σ : xS} {st : List Value} {Q : xR → xS → Prop} {l1 l2 : Option Value} {x : Nat} : G d 95 22 [some (.ref x), l1, l2] st σ Q ↔ G d 95 23 [some (.ref x), l1, l2] (.ref x :: st) σ Q := gs_go f_95_22 rfl
theorem f_95_23 : ft 95 23 = some (47, .aload_n 0, []) := rfl
theorem s_95_23 {d : Nat} {σ : xS} {st : List Value} {Q : xR → xS → Prop} {l1 l2 : Option Value} {x : Nat} : G d 95 23 [some (.ref x), l1, l2] st σ Q ↔ G d 95 24 [some (.ref x), l1, l2] (.ref x :: st) σ Q := gs_go f_95_23 rfl
theorem f_95_24 : ft 95 24 = some (48, .getfield 10, [7, 0, 0, 316]) := rfl
theorem s_95_24 {d : Nat} {t : yT} {st : List Value} {Q : xR → xS → Prop} {l0 l1 l2 : Option Value} {a : Nat} (ho : yisO 7 a) : G d 95 24 [l0, l1, l2] (.ref a :: st) (yemb t) Q ↔ G d 95 25 [l0, l1, l2] (.ref 1 :: st) (yemb t) Q := gs_getf (c := 7) (j := 0) (q := .c 1) f_95_24 ho rfl
theorem f_95_25 : ft 95 25 = some (51, .invokevirtual 99, [76, 1, 0, 883]) := rfl
theorem s_95_25 {d : Nat} {t : yT} {st : List Value} {Q : xR → xS → Prop} {l0 l1 l2 : Option Value} {a0 : Nat} (ho : yisO 6 a0) : G (d + 1) 95 25 [l0, l1, l2] (.ref a0 :: st) (yemb t) Q ↔ xcat st ≤ 8 ∧ Cl d 76 [.ref a0] (yemb t) (Gk (d + 1) 95 25 [l0, l1, l2] st Q) := gs_call f_95_25 ((xinv_call (i := 25) (n := 883) (ls := [l0, l1, l2]) (kind := 0) (σ := yemb t) (by decide)).trans (xcall_vi [.ref a0] rfl rfl (show (1 : Nat) ≤ 1 by decide) rfl ho))
theorem f_95_26 : ft 95 26 = some (54, .putfield 71, [7, 11, 0, 327]) := rfl
theorem s_95_26 {d : Nat} {t : yT} {st : List Value} {Q : xR → xS → Prop} {l0 l1 l2 : Option Value} {a : Nat} {x : Int32} (ho : yisO 7 a) : G d 95 26 [l0, l1, l2] (.int x :: .ref a :: st) (yemb t) Q ↔ G d 95 27 [l0, l1, l2] st (yemb (t.s1 a 11 x)) Q := gs_putI (c := 7) (j := 11) f_95_26 (fun _ => rfl) rfl rfl ho
theorem f_95_27 : ft 95 27 = some (57, .iload_n 2, []) := rfl
theorem s_95_27 {d : Nat} {σ : xS} {st : List Value} {Q : xR → xS → Prop} {l0 l1 : Option Value} {x : Int32} : G d 95 27 [l0, l1, some (.int x)] st σ Q ↔ G d 95 28 [l0, l1, some (.int x)] (.int x :: st) σ Q := gs_go f_95_27 rfl
theorem f_95_28 : ft 95 28 = some (58, .ifCond .ne 11, [33]) := rfl
theorem s_95_28 {d : Nat} {σ : xS} {st : List Value} {Q : xR → xS → Prop} {l0 l1 l2 : Option Value} {x : Int32} : G d 95 28 [l0, l1, l2] (.int x :: st) σ Q ↔ if x ≠ 0 then G d 95 33 [l0, l1, l2] st σ Q else G d 95 29 [l0, l1, l2] st σ Q := gs_if f_95_28 rfl
theorem f_95_29 : ft 95 29 = some (61, .aload_n 0, []) := rfl
theorem s_95_29 {d : Nat} {σ : xS} {st : List Value} {Q : xR → xS → Prop} {l1 l2 : Option Value} {x : Nat} : G d 95 29 [some (.ref x), l1, l2] st σ Q ↔ G d 95 30 [some (.ref x), l1, l2] (.ref x :: st) σ Q := gs_go f_95_29 rfl
theorem f_95_30 : ft 95 30 = some (62, .getfield 10, [7, 0, 0, 316]) := rfl
theorem s_95_30 {d : Nat} {t : yT} {st : List Value} {Q : xR → xS → Prop} {l0 l1 l2 : Option Value} {a : Nat} (ho : yisO 7 a) : G d 95 30 [l0, l1, l2] (.ref a :: st) (yemb t) Q ↔ G d 95 31 [l0, l1, l2] (.ref 1 :: st) (yemb t) Q := gs_getf (c := 7) (j := 0) (q := .c 1) f_95_30 ho rfl
theorem f_95_31 : ft 95 31 = some (65, .invokevirtual 102, [75, 1, 0, 887]) := rfl
theorem s_95_31 {d : Nat} {t : yT} {st : List Value} {Q : xR → xS → Prop} {l0 l1 l2 : Option Value} {a0 : Nat} (ho : yisO 6 a0) : G (d + 1) 95 31 [l0, l1, l2] (.ref a0 :: st) (yemb t) Q ↔ xcat st ≤ 8 ∧ Cl d 75 [.ref a0] (yemb t) (Gk (d + 1) 95 31 [l0, l1, l2] st Q) := gs_call f_95_31 ((xinv_call (i := 31) (n := 887) (ls := [l0, l1, l2]) (kind := 0) (σ := yemb t) (by decide)).trans (xcall_vi [.ref a0] rfl rfl (show (1 : Nat) ≤ 1 by decide) rfl ho))
theorem f_95_32 : ft 95 32 = some (68, .ireturn, []) := rfl
theorem s_95_32 {d : Nat} {σ : xS} {ls : xL} {Q : xR → xS → Prop} {x : Int32} : G d 95 32 ls [.int x] σ Q ↔ Q (.inl (some (.int x))) σ := gs_reti f_95_32 rfl
theorem f_95_33 : ft 95 33 = some (69, .aload_n 0, []) := rfl
theorem s_95_33 {d : Nat} {σ : xS} {st : List Value} {Q : xR → xS → Prop} {l1 l2 : Option Value} {x : Nat} : G d 95 33 [some (.ref x), l1, l2] st σ Q ↔ G d 95 34 [some (.ref x), l1, l2] (.ref x :: st) σ Q := gs_go f_95_33 rfl
theorem f_95_34 : ft 95 34 = some (70, .getfield 54, [7, 6, 0, 322]) := rfl
theorem s_95_34 {d : Nat} {t : yT} {st : List Value} {Q : xR → xS → Prop} {l0 l1 l2 : Option Value} {a : Nat} (ho : yisO 7 a) : G d 95 34 [l0, l1, l2] (.ref a :: st) (yemb t) Q ↔ G d 95 35 [l0, l1, l2] (.ref 38 :: st) (yemb t) Q := gs_getf (c := 7) (j := 6) (q := .c 38) f_95_34 ho rfl
theorem f_95_35 : ft 95 35 = some (73, .aload_n 0, []) := rfl
theorem s_95_35 {d : Nat} {σ : xS} {st : List Value} {Q : xR → xS → Prop} {l1 l2 : Option Value} {x : Nat} : G d 95 35 [some (.ref x), l1, l2] st σ Q ↔ G d 95 36 [some (.ref x), l1, l2] (.ref x :: st) σ Q := gs_go f_95_35 rfl
theorem f_95_36 : ft 95 36 = some (74, .getfield 26, [7, 2, 0, 318]) := rfl
theorem s_95_36 {d : Nat} {t : yT} {st : List Value} {Q : xR → xS → Prop} {l0 l1 l2 : Option Value} {a : Nat} (ho : yisO 7 a) : G d 95 36 [l0, l1, l2] (.ref a :: st) (yemb t) Q ↔ G d 95 37 [l0, l1, l2] (.ref 7 :: st) (yemb t) Q := gs_getf (c := 7) (j := 2) (q := .c 7) f_95_36 ho rfl
theorem f_95_37 : ft 95 37 = some (77, .invokevirtual 105, [6, 2, 0, 891]) := rfl
theorem s_95_37 {d : Nat} {t : yT} {st : List Value} {Q : xR → xS → Prop} {l0 l1 l2 : Option Value} {a0 : Nat} {a1 : Nat} (ho : yisO 1 a0) : G (d + 1) 95 37 [l0, l1, l2] (.ref a1 :: .ref a0 :: st) (yemb t) Q ↔ xcat st ≤ 8 ∧ Cl d 6 [.ref a0, .ref a1] (yemb t) (Gk (d + 1) 95 37 [l0, l1, l2] st Q) := gs_call f_95_37 ((xinv_call (i := 37) (n := 891) (ls := [l0, l1, l2]) (kind := 0) (σ := yemb t) (by decide)).trans (xcall_vi [.ref a1, .ref a0] rfl rfl (show (2 : Nat) ≤ 2 by decide) rfl ho))
theorem f_95_38 : ft 95 38 = some (80, .aload_n 0, []) := rfl
theorem s_95_38 {d : Nat} {σ : xS} {st : List Value} {Q : xR → xS → Prop} {l1 l2 : Option Value} {x : Nat} : G d 95 38 [some (.ref x), l1, l2] st σ Q ↔ G d 95 39 [some (.ref x), l1, l2] (.ref x :: st) σ Q := gs_go f_95_38 rfl
theorem f_95_39 : ft 95 39 = some (81, .getfield 26, [7, 2, 0, 318]) := rfl
theorem s_95_39 {d : Nat} {t : yT} {st : List Value} {Q : xR → xS → Prop} {l0 l1 l2 : Option Value} {a : Nat} (ho : yisO 7 a) : G d 95 39 [l0, l1, l2] (.ref a :: st) (yemb t) Q ↔ G d 95 40 [l0, l1, l2] (.ref 7 :: st) (yemb t) Q := gs_getf (c := 7) (j := 2) (q := .c 7) f_95_39 ho rfl
theorem f_95_40 : ft 95 40 = some (84, .aload_n 0, []) := rfl
theorem s_95_40 {d : Nat} {σ : xS} {st : List Value} {Q : xR → xS → Prop} {l1 l2 : Option Value} {x : Nat} : G d 95 40 [some (.ref x), l1, l2] st σ Q ↔ G d 95 41 [some (.ref x), l1, l2] (.ref x :: st) σ Q := gs_go f_95_40 rfl
theorem f_95_41 : ft 95 41 = some (85, .getfield 30, [7, 3, 0, 319]) := rfl
theorem s_95_41 {d : Nat} {t : yT} {st : List Value} {Q : xR → xS → Prop} {l0 l1 l2 : Option Value} {a : Nat} (ho : yisO 7 a) : G d 95 41 [l0, l1, l2] (.ref a :: st) (yemb t) Q ↔ G d 95 42 [l0, l1, l2] (.ref 19 :: st) (yemb t) Q := gs_getf (c := 7) (j := 3) (q := .c 19) f_95_41 ho rfl
theorem f_95_42 : ft 95 42 = some (88, .invokevirtual 109, [31, 2, 0, 896]) := rfl
theorem s_95_42 {d : Nat} {t : yT} {st : List Value} {Q : xR → xS → Prop} {l0 l1 l2 : Option Value} {a0 : Nat} {a1 : Nat} (ho : yisO 4 a0) : G (d + 1) 95 42 [l0, l1, l2] (.ref a1 :: .ref a0 :: st) (yemb t) Q ↔ xcat st ≤ 8 ∧ Cl d 31 [.ref a0, .ref a1] (yemb t) (Gk (d + 1) 95 42 [l0, l1, l2] st Q) := gs_call f_95_42 ((xinv_call (i := 42) (n := 896) (ls := [l0, l1, l2]) (kind := 0) (σ := yemb t) (by decide)).trans (xcall_vi [.ref a1, .ref a0] rfl rfl (show (2 : Nat) ≤ 2 by decide) rfl ho))
theorem f_95_43 : ft 95 43 = some (91, .aload_n 0, []) := rfl
theorem s_95_43 {d : Nat} {σ : xS} {st : List Value} {Q : xR → xS → Prop} {l1 l2 : Option Value} {x : Nat} : G d 95 43 [some (.ref x), l1, l2] st σ Q ↔ G d 95 44 [some (.ref x), l1, l2] (.ref x :: st) σ Q := gs_go f_95_43 rfl
theorem f_95_44 : ft 95 44 = some (92, .getfield 26, [7, 2, 0, 318]) := rfl
theorem s_95_44 {d : Nat} {t : yT} {st : List Value} {Q : xR → xS → Prop} {l0 l1 l2 : Option Value} {a : Nat} (ho : yisO 7 a) : G d 95 44 [l0, l1, l2] (.ref a :: st) (yemb t) Q ↔ G d 95 45 [l0, l1, l2] (.ref 7 :: st) (yemb t) Q := gs_getf (c := 7) (j := 2) (q := .c 7) f_95_44 ho rfl
theorem f_95_45 : ft 95 45 = some (95, .getfield 112, [4, 9, 1, 161]) := rfl
theorem s_95_45 {d : Nat} {t : yT} {st : List Value} {Q : xR → xS → Prop} {l0 l1 l2 : Option Value} {a : Nat} (ho : yisO 4 a) : G d 95 45 [l0, l1, l2] (.ref a :: st) (yemb t) Q ↔ G d 95 46 [l0, l1, l2] (.int (t.A a 9) :: st) (yemb t) Q := gs_getf (c := 4) (j := 9) (q := .i) f_95_45 ho rfl
theorem f_95_46 : ft 95 46 = some (98, .ireturn, []) := rfl
theorem s_95_46 {d : Nat} {σ : xS} {ls : xL} {Q : xR → xS → Prop} {x : Int32} : G d 95 46 ls [.int x] σ Q ↔ Q (.inl (some (.int x))) σ := gs_reti f_95_46 rfl
theorem f_96_0 : ft 96 0 = some (0, .iload_n 1, []) := rfl
theorem s_96_0 {d : Nat} {σ : xS} {st : List Value} {Q : xR → xS → Prop} {l0 l2 : Option Value} {x : Int32} : G d 96 0 [l0, some (.int x), l2] st σ Q ↔ G d 96 1 [l0, some (.int x), l2] (.int x :: st) σ Q := gs_go f_96_0 rfl
theorem f_96_1 : ft 96 1 = some (1, .ifCond .lt 14, [7]) := rfl
theorem s_96_1 {d : Nat} {σ : xS} {st : List Value} {Q : xR → xS → Prop} {l0 l1 l2 : Option Value} {x : Int32} : G d 96 1 [l0, l1, l2] (.int x :: st) σ Q ↔ if x < 0 then G d 96 7 [l0, l1, l2] st σ Q else G d 96 2 [l0, l1, l2] st σ Q := gs_if f_96_1 rfl
theorem f_96_2 : ft 96 2 = some (4, .iload_n 1, []) := rfl
theorem s_96_2 {d : Nat} {σ : xS} {st : List Value} {Q : xR → xS → Prop} {l0 l2 : Option Value} {x : Int32} : G d 96 2 [l0, some (.int x), l2] st σ Q ↔ G d 96 3 [l0, some (.int x), l2] (.int x :: st) σ Q := gs_go f_96_2 rfl
theorem f_96_3 : ft 96 3 = some (5, .aload_n 0, []) := rfl
theorem s_96_3 {d : Nat} {σ : xS} {st : List Value} {Q : xR → xS → Prop} {l1 l2 : Option Value} {x : Nat} : G d 96 3 [some (.ref x), l1, l2] st σ Q ↔ G d 96 4 [some (.ref x), l1, l2] (.ref x :: st) σ Q := gs_go f_96_3 rfl
theorem f_96_4 : ft 96 4 = some (6, .getfield 10, [7, 0, 0, 316]) := rfl
theorem s_96_4 {d : Nat} {t : yT} {st : List Value} {Q : xR → xS → Prop} {l0 l1 l2 : Option Value} {a : Nat} (ho : yisO 7 a) : G d 96 4 [l0, l1, l2] (.ref a :: st) (yemb t) Q ↔ G d 96 5 [l0, l1, l2] (.ref 1 :: st) (yemb t) Q := gs_getf (c := 7) (j := 0) (q := .c 1) f_96_4 ho rfl
theorem f_96_5 : ft 96 5 = some (9, .invokevirtual 78, [74, 1, 0, 590]) := rfl
theorem s_96_5 {d : Nat} {t : yT} {st : List Value} {Q : xR → xS → Prop} {l0 l1 l2 : Option Value} {a0 : Nat} (ho : yisO 6 a0) : G (d + 1) 96 5 [l0, l1, l2] (.ref a0 :: st) (yemb t) Q ↔ xcat st ≤ 8 ∧ Cl d 74 [.ref a0] (yemb t) (Gk (d + 1) 96 5 [l0, l1, l2] st Q) := gs_call f_96_5 ((xinv_call (i := 5) (n := 590) (ls := [l0, l1, l2]) (kind := 0) (σ := yemb t) (by decide)).trans (xcall_vi [.ref a0] rfl rfl (show (1 : Nat) ≤ 1 by decide) rfl ho))
theorem f_96_6 : ft 96 6 = some (12, .if_icmp .le 11, [11]) := rfl
theorem s_96_6 {d : Nat} {σ : xS} {st : List Value} {Q : xR → xS → Prop} {l0 l1 l2 : Option Value} {x y : Int32} : G d 96 6 [l0, l1, l2] (.int y :: .int x :: st) σ Q ↔ if x ≤ y then G d 96 11 [l0, l1, l2] st σ Q else G d 96 7 [l0, l1, l2] st σ Q := gs_if f_96_6 rfl
theorem f_96_7 : ft 96 7 = some (15, .new 86, [1, 0, 594, 88]) := rfl
theorem s_96_7 {d : Nat} {σ : xS} {ls : xL} {st : List Value} {Q : xR → xS → Prop} : G d 96 7 ls st σ Q ↔ (xcat st ≤ 8 ∧ σ.2.1.1 < 900000) ∧ Q (.inr 0) (xbump (.inr 0) σ) := gs_thr (e := 0) f_96_7
theorem f_96_8 : ft 96 8 = some (18, .dup, []) := rfl
theorem s_96_8 {d : Nat} {σ : xS} {st : List Value} {Q : xR → xS → Prop} {l0 l1 l2 : Option Value} {x : Nat} : G d 96 8 [l0, l1, l2] (.ref x :: st) σ Q ↔ G d 96 9 [l0, l1, l2] (.ref x :: .ref x :: st) σ Q := gs_go f_96_8 rfl
theorem s_96_8i {d : Nat} {σ : xS} {st : List Value} {Q : xR → xS → Prop} {l0 l1 l2 : Option Value} {x : Int32} : G d 96 8 [l0, l1, l2] (.int x :: st) σ Q ↔ G d 96 9 [l0, l1, l2] (.int x :: .int x :: st) σ Q := gs_go f_96_8 rfl
theorem f_96_9 : ft 96 9 = some (19, .invokespecial 88, [0, 1, 23, 636]) := rfl
theorem f_96_10 : ft 96 10 = some (22, .athrow, []) := rfl
theorem f_96_11 : ft 96 11 = some (23, .aload_n 0, []) := rfl
theorem s_96_11 {d : Nat} {σ : xS} {st : List Value} {Q : xR → xS → Prop} {l1 l2 : Option Value} {x : Nat} : G d 96 11 [some (.ref x), l1, l2] st σ Q ↔ G d 96 12 [some (.ref x), l1, l2] (.ref x :: st) σ Q := gs_go f_96_11 rfl
theorem f_96_12 : ft 96 12 = some (24, .getfield 10, [7, 0, 0, 316]) := rfl
theorem s_96_12 {d : Nat} {t : yT} {st : List Value} {Q : xR → xS → Prop} {l0 l1 l2 : Option Value} {a : Nat} (ho : yisO 7 a) : G d 96 12 [l0, l1, l2] (.ref a :: st) (yemb t) Q ↔ G d 96 13 [l0, l1, l2] (.ref 1 :: st) (yemb t) Q := gs_getf (c := 7) (j := 0) (q := .c 1) f_96_12 ho rfl
theorem f_96_13 : ft 96 13 = some (27, .iload_n 1, []) := rfl
theorem s_96_13 {d : Nat} {σ : xS} {st : List Value} {Q : xR → xS → Prop} {l0 l2 : Option Value} {x : Int32} : G d 96 13 [l0, some (.int x), l2] st σ Q ↔ G d 96 14 [l0, some (.int x), l2] (.int x :: st) σ Q := gs_go f_96_13 rfl
theorem f_96_14 : ft 96 14 = some (28, .invokevirtual 89, [79, 2, 0, 659]) := rfl
theorem s_96_14 {d : Nat} {t : yT} {st : List Value} {Q : xR → xS → Prop} {l0 l1 l2 : Option Value} {a0 : Nat} {a1 : Int32} (ho : yisO 6 a0) : G (d + 1) 96 14 [l0, l1, l2] (.int a1 :: .ref a0 :: st) (yemb t) Q ↔ xcat st ≤ 8 ∧ Cl d 79 [.ref a0, .int a1] (yemb t) (Gk (d + 1) 96 14 [l0, l1, l2] st Q) := gs_call f_96_14 ((xinv_call (i := 14) (n := 659) (ls := [l0, l1, l2]) (kind := 0) (σ := yemb t) (by decide)).trans (xcall_vi [.int a1, .ref a0] rfl rfl (show (2 : Nat) ≤ 2 by decide) rfl ho))
theorem f_96_15 : ft 96 15 = some (31, .aload_n 0, []) := rfl
theorem s_96_15 {d : Nat} {σ : xS} {st : List Value} {Q : xR → xS → Prop} {l1 l2 : Option Value} {x : Nat} : G d 96 15 [some (.ref x), l1, l2] st σ Q ↔ G d 96 16 [some (.ref x), l1, l2] (.ref x :: st) σ Q := gs_go f_96_15 rfl
theorem f_96_16 : ft 96 16 = some (32, .getfield 47, [7, 5, 0, 321]) := rfl
theorem s_96_16 {d : Nat} {t : yT} {st : List Value} {Q : xR → xS → Prop} {l0 l1 l2 : Option Value} {a : Nat} (ho : yisO 7 a) : G d 96 16 [l0, l1, l2] (.ref a :: st) (yemb t) Q ↔ G d 96 17 [l0, l1, l2] (.ref 34 :: st) (yemb t) Q := gs_getf (c := 7) (j := 5) (q := .c 34) f_96_16 ho rfl
theorem f_96_17 : ft 96 17 = some (35, .invokevirtual 115, [12, 1, 0, 905]) := rfl
theorem s_96_17 {d : Nat} {t : yT} {st : List Value} {Q : xR → xS → Prop} {l0 l1 l2 : Option Value} {a0 : Nat} (ho : yisO 2 a0) : G (d + 1) 96 17 [l0, l1, l2] (.ref a0 :: st) (yemb t) Q ↔ xcat st ≤ 8 ∧ Cl d 12 [.ref a0] (yemb t) (Gk (d + 1) 96 17 [l0, l1, l2] st Q) := gs_call f_96_17 ((xinv_call (i := 17) (n := 905) (ls := [l0, l1, l2]) (kind := 0) (σ := yemb t) (by decide)).trans (xcall_vi [.ref a0] rfl rfl (show (1 : Nat) ≤ 1 by decide) rfl ho))
theorem f_96_18 : ft 96 18 = some (38, .istore_n 2, []) := rfl
theorem s_96_18 {d : Nat} {σ : xS} {st : List Value} {Q : xR → xS → Prop} {l0 l1 l2 : Option Value} {x : Int32} : G d 96 18 [l0, l1, l2] (.int x :: st) σ Q ↔ G d 96 19 [l0, ykl l1, some (.int x)] st σ Q := by
  cases l1 with
  | none => exact gs_go f_96_18 rfl
  | some v => cases v <;> exact gs_go f_96_18 rfl
theorem f_96_19 : ft 96 19 = some (39, .aload_n 0, []) := rfl
theorem s_96_19 {d : Nat} {σ : xS} {st : List Value} {Q : xR → xS → Prop} {l1 l2 : Option Value} {x : Nat} : G d 96 19 [some (.ref x), l1, l2] st σ Q ↔ G d 96 20 [some (.ref x), l1, l2] (.ref x :: st) σ Q := gs_go f_96_19 rfl
theorem f_96_20 : ft 96 20 = some (40, .getfield 10, [7, 0, 0, 316]) := rfl
theorem s_96_20 {d : Nat} {t : yT} {st : List Value} {Q : xR → xS → Prop} {l0 l1 l2 : Option Value} {a : Nat} (ho : yisO 7 a) : G d 96 20 [l0, l1, l2] (.ref a :: st) (yemb t) Q ↔ G d 96 21 [l0, l1, l2] (.ref 1 :: st) (yemb t) Q := gs_getf (c := 7) (j := 0) (q := .c 1) f_96_20 ho rfl
theorem f_96_21 : ft 96 21 = some (43, .invokevirtual 96, [78, 1, 0, 879]) := rfl
theorem s_96_21 {d : Nat} {t : yT} {st : List Value} {Q : xR → xS → Prop} {l0 l1 l2 : Option Value} {a0 : Nat} (ho : yisO 6 a0) : G (d + 1) 96 21 [l0, l1, l2] (.ref a0 :: st) (yemb t) Q ↔ xcat st ≤ 8 ∧ Cl d 78 [.ref a0] (yemb t) (Gk (d + 1) 96 21 [l0, l1, l2] st Q) := gs_call f_96_21 ((xinv_call (i := 21) (n := 879) (ls := [l0, l1, l2]) (kind := 0) (σ := yemb t) (by decide)).trans (xcall_vi [.ref a0] rfl rfl (show (1 : Nat) ≤ 1 by decide) rfl ho))
theorem f_96_22 : ft 96 22 = some (46, .aload_n 0, []) := rfl
theorem s_96_22 {d : Nat} {σ : xS} {st : List Value} {Q : xR → xS → Prop} {l1 l2 : Option Value} {x : Nat} : G d 96 22 [some (.ref x), l1, l2] st σ Q ↔ G d 96 23 [some (.ref x), l1, l2] (.ref x :: st) σ Q := gs_go f_96_22 rfl
theorem f_96_23 : ft 96 23 = some (47, .aload_n 0, []) := rfl
theorem s_96_23 {d : Nat} {σ : xS} {st : List Value} {Q : xR → xS → Prop} {l1 l2 : Option Value} {x : Nat} : G d 96 23 [some (.ref x), l1, l2] st σ Q ↔ G d 96 24 [some (.ref x), l1, l2] (.ref x :: st) σ Q := gs_go f_96_23 rfl
theorem f_96_24 : ft 96 24 = some (48, .getfield 10, [7, 0, 0, 316]) := rfl
theorem s_96_24 {d : Nat} {t : yT} {st : List Value} {Q : xR → xS → Prop} {l0 l1 l2 : Option Value} {a : Nat} (ho : yisO 7 a) : G d 96 24 [l0, l1, l2] (.ref a :: st) (yemb t) Q ↔ G d 96 25 [l0, l1, l2] (.ref 1 :: st) (yemb t) Q := gs_getf (c := 7) (j := 0) (q := .c 1) f_96_24 ho rfl
theorem f_96_25 : ft 96 25 = some (51, .invokevirtual 99, [76, 1, 0, 883]) := rfl
theorem s_96_25 {d : Nat} {t : yT} {st : List Value} {Q : xR → xS → Prop} {l0 l1 l2 : Option Value} {a0 : Nat} (ho : yisO 6 a0) : G (d + 1) 96 25 [l0, l1, l2] (.ref a0 :: st) (yemb t) Q ↔ xcat st ≤ 8 ∧ Cl d 76 [.ref a0] (yemb t) (Gk (d + 1) 96 25 [l0, l1, l2] st Q) := gs_call f_96_25 ((xinv_call (i := 25) (n := 883) (ls := [l0, l1, l2]) (kind := 0) (σ := yemb t) (by decide)).trans (xcall_vi [.ref a0] rfl rfl (show (1 : Nat) ≤ 1 by decide) rfl ho))
theorem f_96_26 : ft 96 26 = some (54, .putfield 71, [7, 11, 0, 327]) := rfl
theorem s_96_26 {d : Nat} {t : yT} {st : List Value} {Q : xR → xS → Prop} {l0 l1 l2 : Option Value} {a : Nat} {x : Int32} (ho : yisO 7 a) : G d 96 26 [l0, l1, l2] (.int x :: .ref a :: st) (yemb t) Q ↔ G d 96 27 [l0, l1, l2] st (yemb (t.s1 a 11 x)) Q := gs_putI (c := 7) (j := 11) f_96_26 (fun _ => rfl) rfl rfl ho
theorem f_96_27 : ft 96 27 = some (57, .iload_n 2, []) := rfl
theorem s_96_27 {d : Nat} {σ : xS} {st : List Value} {Q : xR → xS → Prop} {l0 l1 : Option Value} {x : Int32} : G d 96 27 [l0, l1, some (.int x)] st σ Q ↔ G d 96 28 [l0, l1, some (.int x)] (.int x :: st) σ Q := gs_go f_96_27 rfl
theorem f_96_28 : ft 96 28 = some (58, .ifCond .ne 11, [33]) := rfl
theorem s_96_28 {d : Nat} {σ : xS} {st : List Value} {Q : xR → xS → Prop} {l0 l1 l2 : Option Value} {x : Int32} : G d 96 28 [l0, l1, l2] (.int x :: st) σ Q ↔ if x ≠ 0 then G d 96 33 [l0, l1, l2] st σ Q else G d 96 29 [l0, l1, l2] st σ Q := gs_if f_96_28 rfl
theorem f_96_29 : ft 96 29 = some (61, .aload_n 0, []) := rfl
theorem s_96_29 {d : Nat} {σ : xS} {st : List Value} {Q : xR → xS → Prop} {l1 l2 : Option Value} {x : Nat} : G d 96 29 [some (.ref x), l1, l2] st σ Q ↔ G d 96 30 [some (.ref x), l1, l2] (.ref x :: st) σ Q := gs_go f_96_29 rfl
theorem f_96_30 : ft 96 30 = some (62, .getfield 10, [7, 0, 0, 316]) := rfl
theorem s_96_30 {d : Nat} {t : yT} {st : List Value} {Q : xR → xS → Prop} {l0 l1 l2 : Option Value} {a : Nat} (ho : yisO 7 a) : G d 96 30 [l0, l1, l2] (.ref a :: st) (yemb t) Q ↔ G d 96 31 [l0, l1, l2] (.ref 1 :: st) (yemb t) Q := gs_getf (c := 7) (j := 0) (q := .c 1) f_96_30 ho rfl
theorem f_96_31 : ft 96 31 = some (65, .invokevirtual 102, [75, 1, 0, 887]) := rfl
theorem s_96_31 {d : Nat} {t : yT} {st : List Value} {Q : xR → xS → Prop} {l0 l1 l2 : Option Value} {a0 : Nat} (ho : yisO 6 a0) : G (d + 1) 96 31 [l0, l1, l2] (.ref a0 :: st) (yemb t) Q ↔ xcat st ≤ 8 ∧ Cl d 75 [.ref a0] (yemb t) (Gk (d + 1) 96 31 [l0, l1, l2] st Q) := gs_call f_96_31 ((xinv_call (i := 31) (n := 887) (ls := [l0, l1, l2]) (kind := 0) (σ := yemb t) (by decide)).trans (xcall_vi [.ref a0] rfl rfl (show (1 : Nat) ≤ 1 by decide) rfl ho))
theorem f_96_32 : ft 96 32 = some (68, .ireturn, []) := rfl
theorem s_96_32 {d : Nat} {σ : xS} {ls : xL} {Q : xR → xS → Prop} {x : Int32} : G d 96 32 ls [.int x] σ Q ↔ Q (.inl (some (.int x))) σ := gs_reti f_96_32 rfl
theorem f_96_33 : ft 96 33 = some (69, .aload_n 0, []) := rfl
theorem s_96_33 {d : Nat} {σ : xS} {st : List Value} {Q : xR → xS → Prop} {l1 l2 : Option Value} {x : Nat} : G d 96 33 [some (.ref x), l1, l2] st σ Q ↔ G d 96 34 [some (.ref x), l1, l2] (.ref x :: st) σ Q := gs_go f_96_33 rfl
theorem f_96_34 : ft 96 34 = some (70, .getfield 54, [7, 6, 0, 322]) := rfl
theorem s_96_34 {d : Nat} {t : yT} {st : List Value} {Q : xR → xS → Prop} {l0 l1 l2 : Option Value} {a : Nat} (ho : yisO 7 a) : G d 96 34 [l0, l1, l2] (.ref a :: st) (yemb t) Q ↔ G d 96 35 [l0, l1, l2] (.ref 38 :: st) (yemb t) Q := gs_getf (c := 7) (j := 6) (q := .c 38) f_96_34 ho rfl
theorem f_96_35 : ft 96 35 = some (73, .aload_n 0, []) := rfl
theorem s_96_35 {d : Nat} {σ : xS} {st : List Value} {Q : xR → xS → Prop} {l1 l2 : Option Value} {x : Nat} : G d 96 35 [some (.ref x), l1, l2] st σ Q ↔ G d 96 36 [some (.ref x), l1, l2] (.ref x :: st) σ Q := gs_go f_96_35 rfl
theorem f_96_36 : ft 96 36 = some (74, .getfield 26, [7, 2, 0, 318]) := rfl
theorem s_96_36 {d : Nat} {t : yT} {st : List Value} {Q : xR → xS → Prop} {l0 l1 l2 : Option Value} {a : Nat} (ho : yisO 7 a) : G d 96 36 [l0, l1, l2] (.ref a :: st) (yemb t) Q ↔ G d 96 37 [l0, l1, l2] (.ref 7 :: st) (yemb t) Q := gs_getf (c := 7) (j := 2) (q := .c 7) f_96_36 ho rfl
theorem f_96_37 : ft 96 37 = some (77, .invokevirtual 105, [6, 2, 0, 891]) := rfl
theorem s_96_37 {d : Nat} {t : yT} {st : List Value} {Q : xR → xS → Prop} {l0 l1 l2 : Option Value} {a0 : Nat} {a1 : Nat} (ho : yisO 1 a0) : G (d + 1) 96 37 [l0, l1, l2] (.ref a1 :: .ref a0 :: st) (yemb t) Q ↔ xcat st ≤ 8 ∧ Cl d 6 [.ref a0, .ref a1] (yemb t) (Gk (d + 1) 96 37 [l0, l1, l2] st Q) := gs_call f_96_37 ((xinv_call (i := 37) (n := 891) (ls := [l0, l1, l2]) (kind := 0) (σ := yemb t) (by decide)).trans (xcall_vi [.ref a1, .ref a0] rfl rfl (show (2 : Nat) ≤ 2 by decide) rfl ho))
theorem f_96_38 : ft 96 38 = some (80, .aload_n 0, []) := rfl
theorem s_96_38 {d : Nat} {σ : xS} {st : List Value} {Q : xR → xS → Prop} {l1 l2 : Option Value} {x : Nat} : G d 96 38 [some (.ref x), l1, l2] st σ Q ↔ G d 96 39 [some (.ref x), l1, l2] (.ref x :: st) σ Q := gs_go f_96_38 rfl
theorem f_96_39 : ft 96 39 = some (81, .getfield 47, [7, 5, 0, 321]) := rfl
theorem s_96_39 {d : Nat} {t : yT} {st : List Value} {Q : xR → xS → Prop} {l0 l1 l2 : Option Value} {a : Nat} (ho : yisO 7 a) : G d 96 39 [l0, l1, l2] (.ref a :: st) (yemb t) Q ↔ G d 96 40 [l0, l1, l2] (.ref 34 :: st) (yemb t) Q := gs_getf (c := 7) (j := 5) (q := .c 34) f_96_39 ho rfl
theorem f_96_40 : ft 96 40 = some (84, .iconst 0, []) := rfl
theorem s_96_40 {d : Nat} {σ : xS} {st : List Value} {Q : xR → xS → Prop} {l0 l1 l2 : Option Value} : G d 96 40 [l0, l1, l2] st σ Q ↔ G d 96 41 [l0, l1, l2] (.int (0) :: st) σ Q := gs_go f_96_40 rfl
theorem f_96_41 : ft 96 41 = some (85, .aload_n 0, []) := rfl
theorem s_96_41 {d : Nat} {σ : xS} {st : List Value} {Q : xR → xS → Prop} {l1 l2 : Option Value} {x : Nat} : G d 96 41 [some (.ref x), l1, l2] st σ Q ↔ G d 96 42 [some (.ref x), l1, l2] (.ref x :: st) σ Q := gs_go f_96_41 rfl
theorem f_96_42 : ft 96 42 = some (86, .getfield 47, [7, 5, 0, 321]) := rfl
theorem s_96_42 {d : Nat} {t : yT} {st : List Value} {Q : xR → xS → Prop} {l0 l1 l2 : Option Value} {a : Nat} (ho : yisO 7 a) : G d 96 42 [l0, l1, l2] (.ref a :: st) (yemb t) Q ↔ G d 96 43 [l0, l1, l2] (.ref 34 :: st) (yemb t) Q := gs_getf (c := 7) (j := 5) (q := .c 34) f_96_42 ho rfl
theorem f_96_43 : ft 96 43 = some (89, .invokevirtual 116, [9, 1, 0, 941]) := rfl
theorem s_96_43 {d : Nat} {t : yT} {st : List Value} {Q : xR → xS → Prop} {l0 l1 l2 : Option Value} {a0 : Nat} (ho : yisO 2 a0) : G (d + 1) 96 43 [l0, l1, l2] (.ref a0 :: st) (yemb t) Q ↔ xcat st ≤ 8 ∧ Cl d 9 [.ref a0] (yemb t) (Gk (d + 1) 96 43 [l0, l1, l2] st Q) := gs_call f_96_43 ((xinv_call (i := 43) (n := 941) (ls := [l0, l1, l2]) (kind := 0) (σ := yemb t) (by decide)).trans (xcall_vi [.ref a0] rfl rfl (show (1 : Nat) ≤ 1 by decide) rfl ho))
theorem f_96_44 : ft 96 44 = some (92, .iconst 0, []) := rfl
theorem s_96_44 {d : Nat} {σ : xS} {st : List Value} {Q : xR → xS → Prop} {l0 l1 l2 : Option Value} : G d 96 44 [l0, l1, l2] st σ Q ↔ G d 96 45 [l0, l1, l2] (.int (0) :: st) σ Q := gs_go f_96_44 rfl
theorem f_96_45 : ft 96 45 = some (93, .invokevirtual 119, [17, 4, 3, 945]) := rfl
theorem s_96_45 {d : Nat} {t : yT} {st : List Value} {Q : xR → xS → Prop} {l0 l1 l2 : Option Value} {a0 : Nat} {a1 : Int32} {a2 : Int32} {a3 : Int32} (ho : yisO 2 a0) : G (d + 1) 96 45 [l0, l1, l2] (.int a3 :: .int a2 :: .int a1 :: .ref a0 :: st) (yemb t) Q ↔ xcat st ≤ 8 ∧ Cl d 17 [.ref a0, .int a1, .int a2, .int a3] (yemb t) (Gk (d + 1) 96 45 [l0, l1, l2] st Q) := gs_call f_96_45 ((xinv_call (i := 45) (n := 945) (ls := [l0, l1, l2]) (kind := 3) (σ := yemb t) (by decide)).trans (xcall_vi [.int a3, .int a2, .int a1, .ref a0] rfl rfl (show (4 : Nat) ≤ 6 by decide) rfl ho))
theorem f_96_46 : ft 96 46 = some (96, .pop, []) := rfl
theorem s_96_46 {d : Nat} {σ : xS} {st : List Value} {Q : xR → xS → Prop} {l0 l1 l2 : Option Value} {x : Nat} : G d 96 46 [l0, l1, l2] (.ref x :: st) σ Q ↔ G d 96 47 [l0, l1, l2] st σ Q := gs_go f_96_46 rfl
theorem s_96_46i {d : Nat} {σ : xS} {st : List Value} {Q : xR → xS → Prop} {l0 l1 l2 : Option Value} {x : Int32} : G d 96 46 [l0, l1, l2] (.int x :: st) σ Q ↔ G d 96 47 [l0, l1, l2] st σ Q := gs_go f_96_46 rfl
theorem f_96_47 : ft 96 47 = some (97, .aload_n 0, []) := rfl
theorem s_96_47 {d : Nat} {σ : xS} {st : List Value} {Q : xR → xS → Prop} {l1 l2 : Option Value} {x : Nat} : G d 96 47 [some (.ref x), l1, l2] st σ Q ↔ G d 96 48 [some (.ref x), l1, l2] (.ref x :: st) σ Q := gs_go f_96_47 rfl
theorem f_96_48 : ft 96 48 = some (98, .aload_n 0, []) := rfl
theorem s_96_48 {d : Nat} {σ : xS} {st : List Value} {Q : xR → xS → Prop} {l1 l2 : Option Value} {x : Nat} : G d 96 48 [some (.ref x), l1, l2] st σ Q ↔ G d 96 49 [some (.ref x), l1, l2] (.ref x :: st) σ Q := gs_go f_96_48 rfl
theorem f_96_49 : ft 96 49 = some (99, .getfield 47, [7, 5, 0, 321]) := rfl
theorem s_96_49 {d : Nat} {t : yT} {st : List Value} {Q : xR → xS → Prop} {l0 l1 l2 : Option Value} {a : Nat} (ho : yisO 7 a) : G d 96 49 [l0, l1, l2] (.ref a :: st) (yemb t) Q ↔ G d 96 50 [l0, l1, l2] (.ref 34 :: st) (yemb t) Q := gs_getf (c := 7) (j := 5) (q := .c 34) f_96_49 ho rfl
theorem f_96_50 : ft 96 50 = some (102, .invokevirtual 123, [11, 1, 0, 1056]) := rfl
theorem s_96_50 {d : Nat} {t : yT} {st : List Value} {Q : xR → xS → Prop} {l0 l1 l2 : Option Value} {a0 : Nat} (ho : yisO 2 a0) : G (d + 1) 96 50 [l0, l1, l2] (.ref a0 :: st) (yemb t) Q ↔ xcat st ≤ 8 ∧ Cl d 11 [.ref a0] (yemb t) (Gk (d + 1) 96 50 [l0, l1, l2] st Q) := gs_call f_96_50 ((xinv_call (i := 50) (n := 1056) (ls := [l0, l1, l2]) (kind := 0) (σ := yemb t) (by decide)).trans (xcall_vi [.ref a0] rfl rfl (show (1 : Nat) ≤ 1 by decide) rfl ho))
theorem f_96_51 : ft 96 51 = some (105, .putfield 75, [7, 12, 0, 328]) := rfl
theorem s_96_51 {d : Nat} {t : yT} {st : List Value} {Q : xR → xS → Prop} {l0 l1 l2 : Option Value} {a : Nat} {x : Int32} (ho : yisO 7 a) : G d 96 51 [l0, l1, l2] (.int x :: .ref a :: st) (yemb t) Q ↔ G d 96 52 [l0, l1, l2] st (yemb (t.s1 a 12 x)) Q := gs_putI (c := 7) (j := 12) f_96_51 (fun _ => rfl) rfl rfl ho
theorem f_96_52 : ft 96 52 = some (108, .aload_n 0, []) := rfl
theorem s_96_52 {d : Nat} {σ : xS} {st : List Value} {Q : xR → xS → Prop} {l1 l2 : Option Value} {x : Nat} : G d 96 52 [some (.ref x), l1, l2] st σ Q ↔ G d 96 53 [some (.ref x), l1, l2] (.ref x :: st) σ Q := gs_go f_96_52 rfl
theorem f_96_53 : ft 96 53 = some (109, .getfield 47, [7, 5, 0, 321]) := rfl
theorem s_96_53 {d : Nat} {t : yT} {st : List Value} {Q : xR → xS → Prop} {l0 l1 l2 : Option Value} {a : Nat} (ho : yisO 7 a) : G d 96 53 [l0, l1, l2] (.ref a :: st) (yemb t) Q ↔ G d 96 54 [l0, l1, l2] (.ref 34 :: st) (yemb t) Q := gs_getf (c := 7) (j := 5) (q := .c 34) f_96_53 ho rfl
theorem f_96_54 : ft 96 54 = some (112, .invokevirtual 126, [10, 1, 0, 1060]) := rfl
theorem s_96_54 {d : Nat} {t : yT} {st : List Value} {Q : xR → xS → Prop} {l0 l1 l2 : Option Value} {a0 : Nat} (ho : yisO 2 a0) : G (d + 1) 96 54 [l0, l1, l2] (.ref a0 :: st) (yemb t) Q ↔ xcat st ≤ 8 ∧ Cl d 10 [.ref a0] (yemb t) (Gk (d + 1) 96 54 [l0, l1, l2] st Q) := gs_call f_96_54 ((xinv_call (i := 54) (n := 1060) (ls := [l0, l1, l2]) (kind := 0) (σ := yemb t) (by decide)).trans (xcall_vi [.ref a0] rfl rfl (show (1 : Nat) ≤ 1 by decide) rfl ho))
theorem f_96_55 : ft 96 55 = some (115, .ireturn, []) := rfl
theorem s_96_55 {d : Nat} {σ : xS} {ls : xL} {Q : xR → xS → Prop} {x : Int32} : G d 96 55 ls [.int x] σ Q ↔ Q (.inl (some (.int x))) σ := gs_reti f_96_55 rfl
theorem f_97_0 : ft 97 0 = some (0, .aload_n 0, []) := rfl
theorem s_97_0 {d : Nat} {σ : xS} {st : List Value} {Q : xR → xS → Prop} {x : Nat} : G d 97 0 [some (.ref x)] st σ Q ↔ G d 97 1 [some (.ref x)] (.ref x :: st) σ Q := gs_go f_97_0 rfl
theorem f_97_1 : ft 97 1 = some (1, .getfield 71, [7, 11, 0, 327]) := rfl
theorem s_97_1 {d : Nat} {t : yT} {st : List Value} {Q : xR → xS → Prop} {l0 : Option Value} {a : Nat} (ho : yisO 7 a) : G d 97 1 [l0] (.ref a :: st) (yemb t) Q ↔ G d 97 2 [l0] (.int (t.A a 11) :: st) (yemb t) Q := gs_getf (c := 7) (j := 11) (q := .i) f_97_1 ho rfl
theorem f_97_2 : ft 97 2 = some (4, .ireturn, []) := rfl
theorem s_97_2 {d : Nat} {σ : xS} {ls : xL} {Q : xR → xS → Prop} {x : Int32} : G d 97 2 ls [.int x] σ Q ↔ Q (.inl (some (.int x))) σ := gs_reti f_97_2 rfl
theorem f_98_0 : ft 98 0 = some (0, .aload_n 0, []) := rfl
theorem s_98_0 {d : Nat} {σ : xS} {st : List Value} {Q : xR → xS → Prop} {x : Nat} : G d 98 0 [some (.ref x)] st σ Q ↔ G d 98 1 [some (.ref x)] (.ref x :: st) σ Q := gs_go f_98_0 rfl
theorem f_98_1 : ft 98 1 = some (1, .getfield 75, [7, 12, 0, 328]) := rfl
theorem s_98_1 {d : Nat} {t : yT} {st : List Value} {Q : xR → xS → Prop} {l0 : Option Value} {a : Nat} (ho : yisO 7 a) : G d 98 1 [l0] (.ref a :: st) (yemb t) Q ↔ G d 98 2 [l0] (.int (t.A a 12) :: st) (yemb t) Q := gs_getf (c := 7) (j := 12) (q := .i) f_98_1 ho rfl
theorem f_98_2 : ft 98 2 = some (4, .ireturn, []) := rfl
theorem s_98_2 {d : Nat} {σ : xS} {ls : xL} {Q : xR → xS → Prop} {x : Int32} : G d 98 2 ls [.int x] σ Q ↔ Q (.inl (some (.int x))) σ := gs_reti f_98_2 rfl
theorem f_99_0 : ft 99 0 = some (0, .iload_n 1, []) := rfl
theorem s_99_0 {d : Nat} {σ : xS} {st : List Value} {Q : xR → xS → Prop} {l0 : Option Value} {x : Int32} : G d 99 0 [l0, some (.int x)] st σ Q ↔ G d 99 1 [l0, some (.int x)] (.int x :: st) σ Q := gs_go f_99_0 rfl
theorem f_99_1 : ft 99 1 = some (1, .tableswitch 153 0 9 #[55, 63, 71, 79, 87, 98, 106, 114, 122, 130], [50, 2, 6, 10, 14, 18, 23, 27, 31, 35, 39]) := rfl
theorem s_99_1_0 {d : Nat} {σ : xS} {st : List Value} {Q : xR → xS → Prop} {l0 l1 : Option Value} : G d 99 1 [l0, l1] (.int (0) :: st) σ Q ↔ G d 99 2 [l0, l1] st σ Q := gs_go f_99_1 rfl
theorem s_99_1_1 {d : Nat} {σ : xS} {st : List Value} {Q : xR → xS → Prop} {l0 l1 : Option Value} : G d 99 1 [l0, l1] (.int (1) :: st) σ Q ↔ G d 99 6 [l0, l1] st σ Q := gs_go f_99_1 rfl
theorem s_99_1_2 {d : Nat} {σ : xS} {st : List Value} {Q : xR → xS → Prop} {l0 l1 : Option Value} : G d 99 1 [l0, l1] (.int (2) :: st) σ Q ↔ G d 99 10 [l0, l1] st σ Q := gs_go f_99_1 rfl
theorem s_99_1_3 {d : Nat} {σ : xS} {st : List Value} {Q : xR → xS → Prop} {l0 l1 : Option Value} : G d 99 1 [l0, l1] (.int (3) :: st) σ Q ↔ G d 99 14 [l0, l1] st σ Q := gs_go f_99_1 rfl
theorem s_99_1_4 {d : Nat} {σ : xS} {st : List Value} {Q : xR → xS → Prop} {l0 l1 : Option Value} : G d 99 1 [l0, l1] (.int (4) :: st) σ Q ↔ G d 99 18 [l0, l1] st σ Q := gs_go f_99_1 rfl
theorem s_99_1_5 {d : Nat} {σ : xS} {st : List Value} {Q : xR → xS → Prop} {l0 l1 : Option Value} : G d 99 1 [l0, l1] (.int (5) :: st) σ Q ↔ G d 99 23 [l0, l1] st σ Q := gs_go f_99_1 rfl
theorem s_99_1_6 {d : Nat} {σ : xS} {st : List Value} {Q : xR → xS → Prop} {l0 l1 : Option Value} : G d 99 1 [l0, l1] (.int (6) :: st) σ Q ↔ G d 99 27 [l0, l1] st σ Q := gs_go f_99_1 rfl
theorem s_99_1_7 {d : Nat} {σ : xS} {st : List Value} {Q : xR → xS → Prop} {l0 l1 : Option Value} : G d 99 1 [l0, l1] (.int (7) :: st) σ Q ↔ G d 99 31 [l0, l1] st σ Q := gs_go f_99_1 rfl
theorem s_99_1_8 {d : Nat} {σ : xS} {st : List Value} {Q : xR → xS → Prop} {l0 l1 : Option Value} : G d 99 1 [l0, l1] (.int (8) :: st) σ Q ↔ G d 99 35 [l0, l1] st σ Q := gs_go f_99_1 rfl
theorem s_99_1_9 {d : Nat} {σ : xS} {st : List Value} {Q : xR → xS → Prop} {l0 l1 : Option Value} : G d 99 1 [l0, l1] (.int (9) :: st) σ Q ↔ G d 99 39 [l0, l1] st σ Q := gs_go f_99_1 rfl
theorem s_99_1_d {d : Nat} {σ : xS} {st : List Value} {Q : xR → xS → Prop} {l0 l1 : Option Value} {x : Int32} (h : x.toInt < 0 ∨ 9 < x.toInt) : G d 99 1 [l0, l1] (.int x :: st) σ Q ↔ G d 99 50 [l0, l1] st σ Q := gs_go f_99_1 (if_pos h)
theorem f_99_2 : ft 99 2 = some (56, .aload_n 0, []) := rfl
theorem s_99_2 {d : Nat} {σ : xS} {st : List Value} {Q : xR → xS → Prop} {l1 : Option Value} {x : Nat} : G d 99 2 [some (.ref x), l1] st σ Q ↔ G d 99 3 [some (.ref x), l1] (.ref x :: st) σ Q := gs_go f_99_2 rfl
theorem f_99_3 : ft 99 3 = some (57, .getfield 26, [7, 2, 0, 318]) := rfl
theorem s_99_3 {d : Nat} {t : yT} {st : List Value} {Q : xR → xS → Prop} {l0 l1 : Option Value} {a : Nat} (ho : yisO 7 a) : G d 99 3 [l0, l1] (.ref a :: st) (yemb t) Q ↔ G d 99 4 [l0, l1] (.ref 7 :: st) (yemb t) Q := gs_getf (c := 7) (j := 2) (q := .c 7) f_99_3 ho rfl
theorem f_99_4 : ft 99 4 = some (60, .getfield 112, [4, 9, 1, 161]) := rfl
theorem s_99_4 {d : Nat} {t : yT} {st : List Value} {Q : xR → xS → Prop} {l0 l1 : Option Value} {a : Nat} (ho : yisO 4 a) : G d 99 4 [l0, l1] (.ref a :: st) (yemb t) Q ↔ G d 99 5 [l0, l1] (.int (t.A a 9) :: st) (yemb t) Q := gs_getf (c := 4) (j := 9) (q := .i) f_99_4 ho rfl
theorem f_99_5 : ft 99 5 = some (63, .ireturn, []) := rfl
theorem s_99_5 {d : Nat} {σ : xS} {ls : xL} {Q : xR → xS → Prop} {x : Int32} : G d 99 5 ls [.int x] σ Q ↔ Q (.inl (some (.int x))) σ := gs_reti f_99_5 rfl
theorem f_99_6 : ft 99 6 = some (64, .aload_n 0, []) := rfl
theorem s_99_6 {d : Nat} {σ : xS} {st : List Value} {Q : xR → xS → Prop} {l1 : Option Value} {x : Nat} : G d 99 6 [some (.ref x), l1] st σ Q ↔ G d 99 7 [some (.ref x), l1] (.ref x :: st) σ Q := gs_go f_99_6 rfl
theorem f_99_7 : ft 99 7 = some (65, .getfield 26, [7, 2, 0, 318]) := rfl
theorem s_99_7 {d : Nat} {t : yT} {st : List Value} {Q : xR → xS → Prop} {l0 l1 : Option Value} {a : Nat} (ho : yisO 7 a) : G d 99 7 [l0, l1] (.ref a :: st) (yemb t) Q ↔ G d 99 8 [l0, l1] (.ref 7 :: st) (yemb t) Q := gs_getf (c := 7) (j := 2) (q := .c 7) f_99_7 ho rfl
theorem f_99_8 : ft 99 8 = some (68, .getfield 129, [4, 10, 1, 164]) := rfl
theorem s_99_8 {d : Nat} {t : yT} {st : List Value} {Q : xR → xS → Prop} {l0 l1 : Option Value} {a : Nat} (ho : yisO 4 a) : G d 99 8 [l0, l1] (.ref a :: st) (yemb t) Q ↔ G d 99 9 [l0, l1] (.int (t.A a 10) :: st) (yemb t) Q := gs_getf (c := 4) (j := 10) (q := .i) f_99_8 ho rfl
theorem f_99_9 : ft 99 9 = some (71, .ireturn, []) := rfl
theorem s_99_9 {d : Nat} {σ : xS} {ls : xL} {Q : xR → xS → Prop} {x : Int32} : G d 99 9 ls [.int x] σ Q ↔ Q (.inl (some (.int x))) σ := gs_reti f_99_9 rfl
theorem f_99_10 : ft 99 10 = some (72, .aload_n 0, []) := rfl
theorem s_99_10 {d : Nat} {σ : xS} {st : List Value} {Q : xR → xS → Prop} {l1 : Option Value} {x : Nat} : G d 99 10 [some (.ref x), l1] st σ Q ↔ G d 99 11 [some (.ref x), l1] (.ref x :: st) σ Q := gs_go f_99_10 rfl
theorem f_99_11 : ft 99 11 = some (73, .getfield 26, [7, 2, 0, 318]) := rfl
theorem s_99_11 {d : Nat} {t : yT} {st : List Value} {Q : xR → xS → Prop} {l0 l1 : Option Value} {a : Nat} (ho : yisO 7 a) : G d 99 11 [l0, l1] (.ref a :: st) (yemb t) Q ↔ G d 99 12 [l0, l1] (.ref 7 :: st) (yemb t) Q := gs_getf (c := 7) (j := 2) (q := .c 7) f_99_11 ho rfl
theorem f_99_12 : ft 99 12 = some (76, .getfield 132, [4, 11, 1, 166]) := rfl
theorem s_99_12 {d : Nat} {t : yT} {st : List Value} {Q : xR → xS → Prop} {l0 l1 : Option Value} {a : Nat} (ho : yisO 4 a) : G d 99 12 [l0, l1] (.ref a :: st) (yemb t) Q ↔ G d 99 13 [l0, l1] (.int (t.A a 11) :: st) (yemb t) Q := gs_getf (c := 4) (j := 11) (q := .i) f_99_12 ho rfl
theorem f_99_13 : ft 99 13 = some (79, .ireturn, []) := rfl
theorem s_99_13 {d : Nat} {σ : xS} {ls : xL} {Q : xR → xS → Prop} {x : Int32} : G d 99 13 ls [.int x] σ Q ↔ Q (.inl (some (.int x))) σ := gs_reti f_99_13 rfl
theorem f_99_14 : ft 99 14 = some (80, .aload_n 0, []) := rfl
theorem s_99_14 {d : Nat} {σ : xS} {st : List Value} {Q : xR → xS → Prop} {l1 : Option Value} {x : Nat} : G d 99 14 [some (.ref x), l1] st σ Q ↔ G d 99 15 [some (.ref x), l1] (.ref x :: st) σ Q := gs_go f_99_14 rfl
theorem f_99_15 : ft 99 15 = some (81, .getfield 26, [7, 2, 0, 318]) := rfl
theorem s_99_15 {d : Nat} {t : yT} {st : List Value} {Q : xR → xS → Prop} {l0 l1 : Option Value} {a : Nat} (ho : yisO 7 a) : G d 99 15 [l0, l1] (.ref a :: st) (yemb t) Q ↔ G d 99 16 [l0, l1] (.ref 7 :: st) (yemb t) Q := gs_getf (c := 7) (j := 2) (q := .c 7) f_99_15 ho rfl
theorem f_99_16 : ft 99 16 = some (84, .getfield 135, [4, 12, 1, 171]) := rfl
theorem s_99_16 {d : Nat} {t : yT} {st : List Value} {Q : xR → xS → Prop} {l0 l1 : Option Value} {a : Nat} (ho : yisO 4 a) : G d 99 16 [l0, l1] (.ref a :: st) (yemb t) Q ↔ G d 99 17 [l0, l1] (.int (t.A a 12) :: st) (yemb t) Q := gs_getf (c := 4) (j := 12) (q := .i) f_99_16 ho rfl
theorem f_99_17 : ft 99 17 = some (87, .ireturn, []) := rfl
theorem s_99_17 {d : Nat} {σ : xS} {ls : xL} {Q : xR → xS → Prop} {x : Int32} : G d 99 17 ls [.int x] σ Q ↔ Q (.inl (some (.int x))) σ := gs_reti f_99_17 rfl
theorem f_99_18 : ft 99 18 = some (88, .aload_n 0, []) := rfl
theorem s_99_18 {d : Nat} {σ : xS} {st : List Value} {Q : xR → xS → Prop} {l1 : Option Value} {x : Nat} : G d 99 18 [some (.ref x), l1] st σ Q ↔ G d 99 19 [some (.ref x), l1] (.ref x :: st) σ Q := gs_go f_99_18 rfl
theorem f_99_19 : ft 99 19 = some (89, .getfield 26, [7, 2, 0, 318]) := rfl
theorem s_99_19 {d : Nat} {t : yT} {st : List Value} {Q : xR → xS → Prop} {l0 l1 : Option Value} {a : Nat} (ho : yisO 7 a) : G d 99 19 [l0, l1] (.ref a :: st) (yemb t) Q ↔ G d 99 20 [l0, l1] (.ref 7 :: st) (yemb t) Q := gs_getf (c := 7) (j := 2) (q := .c 7) f_99_19 ho rfl
theorem f_99_20 : ft 99 20 = some (92, .getfield 138, [4, 15, 1, 177]) := rfl
theorem s_99_20 {d : Nat} {t : yT} {st : List Value} {Q : xR → xS → Prop} {l0 l1 : Option Value} {a : Nat} (ho : yisO 4 a) : G d 99 20 [l0, l1] (.ref a :: st) (yemb t) Q ↔ G d 99 21 [l0, l1] (.long (t.L a 15) :: st) (yemb t) Q := gs_getf (c := 4) (j := 15) (q := .l) f_99_20 ho rfl
theorem f_99_21 : ft 99 21 = some (95, .invokestatic 142, [216, 1, 1, 1207]) := rfl
theorem s_99_21 {d : Nat} {σ : xS} {st : List Value} {Q : xR → xS → Prop} {l0 l1 : Option Value} {a0 : Int64} : G (d + 1) 99 21 [l0, l1] (.long a0 :: st) σ Q ↔ xcat st ≤ 8 ∧ Cl d 216 [.long a0] σ (Gk (d + 1) 99 21 [l0, l1] st Q) := gs_call f_99_21 ((xinv_call (i := 21) (n := 1207) (ls := [l0, l1]) (kind := 1) (σ := σ) (by decide)).trans (xcall_st [.long a0] rfl (by decide) (show (2 : Nat) ≤ 2 by decide)))
theorem f_99_22 : ft 99 22 = some (98, .ireturn, []) := rfl
theorem s_99_22 {d : Nat} {σ : xS} {ls : xL} {Q : xR → xS → Prop} {x : Int32} : G d 99 22 ls [.int x] σ Q ↔ Q (.inl (some (.int x))) σ := gs_reti f_99_22 rfl
theorem f_99_23 : ft 99 23 = some (99, .aload_n 0, []) := rfl
theorem s_99_23 {d : Nat} {σ : xS} {st : List Value} {Q : xR → xS → Prop} {l1 : Option Value} {x : Nat} : G d 99 23 [some (.ref x), l1] st σ Q ↔ G d 99 24 [some (.ref x), l1] (.ref x :: st) σ Q := gs_go f_99_23 rfl
theorem f_99_24 : ft 99 24 = some (100, .getfield 26, [7, 2, 0, 318]) := rfl
theorem s_99_24 {d : Nat} {t : yT} {st : List Value} {Q : xR → xS → Prop} {l0 l1 : Option Value} {a : Nat} (ho : yisO 7 a) : G d 99 24 [l0, l1] (.ref a :: st) (yemb t) Q ↔ G d 99 25 [l0, l1] (.ref 7 :: st) (yemb t) Q := gs_getf (c := 7) (j := 2) (q := .c 7) f_99_24 ho rfl
theorem f_99_25 : ft 99 25 = some (103, .getfield 148, [4, 13, 1, 173]) := rfl
theorem s_99_25 {d : Nat} {t : yT} {st : List Value} {Q : xR → xS → Prop} {l0 l1 : Option Value} {a : Nat} (ho : yisO 4 a) : G d 99 25 [l0, l1] (.ref a :: st) (yemb t) Q ↔ G d 99 26 [l0, l1] (.int (t.A a 13) :: st) (yemb t) Q := gs_getf (c := 4) (j := 13) (q := .i) f_99_25 ho rfl
theorem f_99_26 : ft 99 26 = some (106, .ireturn, []) := rfl
theorem s_99_26 {d : Nat} {σ : xS} {ls : xL} {Q : xR → xS → Prop} {x : Int32} : G d 99 26 ls [.int x] σ Q ↔ Q (.inl (some (.int x))) σ := gs_reti f_99_26 rfl
theorem f_99_27 : ft 99 27 = some (107, .aload_n 0, []) := rfl
theorem s_99_27 {d : Nat} {σ : xS} {st : List Value} {Q : xR → xS → Prop} {l1 : Option Value} {x : Nat} : G d 99 27 [some (.ref x), l1] st σ Q ↔ G d 99 28 [some (.ref x), l1] (.ref x :: st) σ Q := gs_go f_99_27 rfl
theorem f_99_28 : ft 99 28 = some (108, .getfield 26, [7, 2, 0, 318]) := rfl
theorem s_99_28 {d : Nat} {t : yT} {st : List Value} {Q : xR → xS → Prop} {l0 l1 : Option Value} {a : Nat} (ho : yisO 7 a) : G d 99 28 [l0, l1] (.ref a :: st) (yemb t) Q ↔ G d 99 29 [l0, l1] (.ref 7 :: st) (yemb t) Q := gs_getf (c := 7) (j := 2) (q := .c 7) f_99_28 ho rfl
theorem f_99_29 : ft 99 29 = some (111, .invokevirtual 151, [59, 1, 0, 1122]) := rfl
theorem s_99_29 {d : Nat} {t : yT} {st : List Value} {Q : xR → xS → Prop} {l0 l1 : Option Value} {a0 : Nat} (ho : yisO 4 a0) : G (d + 1) 99 29 [l0, l1] (.ref a0 :: st) (yemb t) Q ↔ xcat st ≤ 8 ∧ Cl d 59 [.ref a0] (yemb t) (Gk (d + 1) 99 29 [l0, l1] st Q) := gs_call f_99_29 ((xinv_call (i := 29) (n := 1122) (ls := [l0, l1]) (kind := 0) (σ := yemb t) (by decide)).trans (xcall_vi [.ref a0] rfl rfl (show (1 : Nat) ≤ 3 by decide) rfl ho))
theorem f_99_30 : ft 99 30 = some (114, .ireturn, []) := rfl
theorem s_99_30 {d : Nat} {σ : xS} {ls : xL} {Q : xR → xS → Prop} {x : Int32} : G d 99 30 ls [.int x] σ Q ↔ Q (.inl (some (.int x))) σ := gs_reti f_99_30 rfl
theorem f_99_31 : ft 99 31 = some (115, .aload_n 0, []) := rfl
theorem s_99_31 {d : Nat} {σ : xS} {st : List Value} {Q : xR → xS → Prop} {l1 : Option Value} {x : Nat} : G d 99 31 [some (.ref x), l1] st σ Q ↔ G d 99 32 [some (.ref x), l1] (.ref x :: st) σ Q := gs_go f_99_31 rfl
theorem f_99_32 : ft 99 32 = some (116, .getfield 26, [7, 2, 0, 318]) := rfl
theorem s_99_32 {d : Nat} {t : yT} {st : List Value} {Q : xR → xS → Prop} {l0 l1 : Option Value} {a : Nat} (ho : yisO 7 a) : G d 99 32 [l0, l1] (.ref a :: st) (yemb t) Q ↔ G d 99 33 [l0, l1] (.ref 7 :: st) (yemb t) Q := gs_getf (c := 7) (j := 2) (q := .c 7) f_99_32 ho rfl
theorem f_99_33 : ft 99 33 = some (119, .invokevirtual 154, [50, 1, 0, 1622]) := rfl
theorem s_99_33 {d : Nat} {t : yT} {st : List Value} {Q : xR → xS → Prop} {l0 l1 : Option Value} {a0 : Nat} (ho : yisO 4 a0) : G (d + 1) 99 33 [l0, l1] (.ref a0 :: st) (yemb t) Q ↔ xcat st ≤ 8 ∧ Cl d 50 [.ref a0] (yemb t) (Gk (d + 1) 99 33 [l0, l1] st Q) := gs_call f_99_33 ((xinv_call (i := 33) (n := 1622) (ls := [l0, l1]) (kind := 0) (σ := yemb t) (by decide)).trans (xcall_vi [.ref a0] rfl rfl (show (1 : Nat) ≤ 5 by decide) rfl ho))
theorem f_99_34 : ft 99 34 = some (122, .ireturn, []) := rfl
theorem s_99_34 {d : Nat} {σ : xS} {ls : xL} {Q : xR → xS → Prop} {x : Int32} : G d 99 34 ls [.int x] σ Q ↔ Q (.inl (some (.int x))) σ := gs_reti f_99_34 rfl
theorem f_99_35 : ft 99 35 = some (123, .aload_n 0, []) := rfl
theorem s_99_35 {d : Nat} {σ : xS} {st : List Value} {Q : xR → xS → Prop} {l1 : Option Value} {x : Nat} : G d 99 35 [some (.ref x), l1] st σ Q ↔ G d 99 36 [some (.ref x), l1] (.ref x :: st) σ Q := gs_go f_99_35 rfl
theorem f_99_36 : ft 99 36 = some (124, .getfield 26, [7, 2, 0, 318]) := rfl
theorem s_99_36 {d : Nat} {t : yT} {st : List Value} {Q : xR → xS → Prop} {l0 l1 : Option Value} {a : Nat} (ho : yisO 7 a) : G d 99 36 [l0, l1] (.ref a :: st) (yemb t) Q ↔ G d 99 37 [l0, l1] (.ref 7 :: st) (yemb t) Q := gs_getf (c := 7) (j := 2) (q := .c 7) f_99_36 ho rfl
theorem f_99_37 : ft 99 37 = some (127, .getfield 157, [4, 14, 1, 175]) := rfl
theorem s_99_37 {d : Nat} {t : yT} {st : List Value} {Q : xR → xS → Prop} {l0 l1 : Option Value} {a : Nat} (ho : yisO 4 a) : G d 99 37 [l0, l1] (.ref a :: st) (yemb t) Q ↔ G d 99 38 [l0, l1] (.int (t.A a 14) :: st) (yemb t) Q := gs_getf (c := 4) (j := 14) (q := .i) f_99_37 ho rfl
theorem f_99_38 : ft 99 38 = some (130, .ireturn, []) := rfl
theorem s_99_38 {d : Nat} {σ : xS} {ls : xL} {Q : xR → xS → Prop} {x : Int32} : G d 99 38 ls [.int x] σ Q ↔ Q (.inl (some (.int x))) σ := gs_reti f_99_38 rfl
theorem f_99_39 : ft 99 39 = some (131, .aload_n 0, []) := rfl
theorem s_99_39 {d : Nat} {σ : xS} {st : List Value} {Q : xR → xS → Prop} {l1 : Option Value} {x : Nat} : G d 99 39 [some (.ref x), l1] st σ Q ↔ G d 99 40 [some (.ref x), l1] (.ref x :: st) σ Q := gs_go f_99_39 rfl
theorem f_99_40 : ft 99 40 = some (132, .getfield 26, [7, 2, 0, 318]) := rfl
theorem s_99_40 {d : Nat} {t : yT} {st : List Value} {Q : xR → xS → Prop} {l0 l1 : Option Value} {a : Nat} (ho : yisO 7 a) : G d 99 40 [l0, l1] (.ref a :: st) (yemb t) Q ↔ G d 99 41 [l0, l1] (.ref 7 :: st) (yemb t) Q := gs_getf (c := 7) (j := 2) (q := .c 7) f_99_40 ho rfl
theorem f_99_41 : ft 99 41 = some (135, .invokevirtual 160, [37, 1, 0, 1206]) := rfl
theorem s_99_41 {d : Nat} {t : yT} {st : List Value} {Q : xR → xS → Prop} {l0 l1 : Option Value} {a0 : Nat} (ho : yisO 4 a0) : G (d + 1) 99 41 [l0, l1] (.ref a0 :: st) (yemb t) Q ↔ xcat st ≤ 8 ∧ Cl d 37 [.ref a0] (yemb t) (Gk (d + 1) 99 41 [l0, l1] st Q) := gs_call f_99_41 ((xinv_call (i := 41) (n := 1206) (ls := [l0, l1]) (kind := 0) (σ := yemb t) (by decide)).trans (xcall_vi [.ref a0] rfl rfl (show (1 : Nat) ≤ 4 by decide) rfl ho))
theorem f_99_42 : ft 99 42 = some (138, .aload_n 0, []) := rfl
theorem s_99_42 {d : Nat} {σ : xS} {st : List Value} {Q : xR → xS → Prop} {l1 : Option Value} {x : Nat} : G d 99 42 [some (.ref x), l1] st σ Q ↔ G d 99 43 [some (.ref x), l1] (.ref x :: st) σ Q := gs_go f_99_42 rfl
theorem f_99_43 : ft 99 43 = some (139, .getfield 26, [7, 2, 0, 318]) := rfl
theorem s_99_43 {d : Nat} {t : yT} {st : List Value} {Q : xR → xS → Prop} {l0 l1 : Option Value} {a : Nat} (ho : yisO 7 a) : G d 99 43 [l0, l1] (.ref a :: st) (yemb t) Q ↔ G d 99 44 [l0, l1] (.ref 7 :: st) (yemb t) Q := gs_getf (c := 7) (j := 2) (q := .c 7) f_99_43 ho rfl
theorem f_99_44 : ft 99 44 = some (142, .getfield 138, [4, 15, 1, 177]) := rfl
theorem s_99_44 {d : Nat} {t : yT} {st : List Value} {Q : xR → xS → Prop} {l0 l1 : Option Value} {a : Nat} (ho : yisO 4 a) : G d 99 44 [l0, l1] (.ref a :: st) (yemb t) Q ↔ G d 99 45 [l0, l1] (.long (t.L a 15) :: st) (yemb t) Q := gs_getf (c := 4) (j := 15) (q := .l) f_99_44 ho rfl
theorem f_99_45 : ft 99 45 = some (145, .ldc2_w 164, [(-1), 1623]) := rfl
theorem s_99_45 {d : Nat} {σ : xS} {st : List Value} {Q : xR → xS → Prop} {l0 l1 : Option Value} : G d 99 45 [l0, l1] st σ Q ↔ G d 99 46 [l0, l1] (.long (-1) :: st) σ Q := gs_go f_99_45 rfl
theorem f_99_46 : ft 99 46 = some (148, .lxor, []) := rfl
theorem s_99_46 {d : Nat} {σ : xS} {st : List Value} {Q : xR → xS → Prop} {l0 l1 : Option Value} {x y : Int64} : G d 99 46 [l0, l1] (.long y :: .long x :: st) σ Q ↔ G d 99 47 [l0, l1] (.long (x ^^^ y) :: st) σ Q := gs_go f_99_46 rfl
theorem f_99_47 : ft 99 47 = some (149, .land, []) := rfl
theorem s_99_47 {d : Nat} {σ : xS} {st : List Value} {Q : xR → xS → Prop} {l0 l1 : Option Value} {x y : Int64} : G d 99 47 [l0, l1] (.long y :: .long x :: st) σ Q ↔ G d 99 48 [l0, l1] (.long (x &&& y) :: st) σ Q := gs_go f_99_47 rfl
theorem f_99_48 : ft 99 48 = some (150, .invokestatic 142, [216, 1, 1, 1207]) := rfl
theorem s_99_48 {d : Nat} {σ : xS} {st : List Value} {Q : xR → xS → Prop} {l0 l1 : Option Value} {a0 : Int64} : G (d + 1) 99 48 [l0, l1] (.long a0 :: st) σ Q ↔ xcat st ≤ 8 ∧ Cl d 216 [.long a0] σ (Gk (d + 1) 99 48 [l0, l1] st Q) := gs_call f_99_48 ((xinv_call (i := 48) (n := 1207) (ls := [l0, l1]) (kind := 1) (σ := σ) (by decide)).trans (xcall_st [.long a0] rfl (by decide) (show (2 : Nat) ≤ 2 by decide)))
theorem f_99_49 : ft 99 49 = some (153, .ireturn, []) := rfl
theorem s_99_49 {d : Nat} {σ : xS} {ls : xL} {Q : xR → xS → Prop} {x : Int32} : G d 99 49 ls [.int x] σ Q ↔ Q (.inl (some (.int x))) σ := gs_reti f_99_49 rfl
theorem f_99_50 : ft 99 50 = some (154, .new 86, [1, 0, 594, 88]) := rfl
theorem s_99_50 {d : Nat} {σ : xS} {ls : xL} {st : List Value} {Q : xR → xS → Prop} : G d 99 50 ls st σ Q ↔ (xcat st ≤ 8 ∧ σ.2.1.1 < 900000) ∧ Q (.inr 0) (xbump (.inr 0) σ) := gs_thr (e := 0) f_99_50
theorem f_99_51 : ft 99 51 = some (157, .dup, []) := rfl
theorem s_99_51 {d : Nat} {σ : xS} {st : List Value} {Q : xR → xS → Prop} {l0 l1 : Option Value} {x : Nat} : G d 99 51 [l0, l1] (.ref x :: st) σ Q ↔ G d 99 52 [l0, l1] (.ref x :: .ref x :: st) σ Q := gs_go f_99_51 rfl
theorem s_99_51i {d : Nat} {σ : xS} {st : List Value} {Q : xR → xS → Prop} {l0 l1 : Option Value} {x : Int32} : G d 99 51 [l0, l1] (.int x :: st) σ Q ↔ G d 99 52 [l0, l1] (.int x :: .int x :: st) σ Q := gs_go f_99_51 rfl
theorem f_99_52 : ft 99 52 = some (158, .invokespecial 88, [0, 1, 23, 636]) := rfl
theorem f_99_53 : ft 99 53 = some (161, .athrow, []) := rfl
theorem f_100_0 : ft 100 0 = some (0, .aload_n 0, []) := rfl
theorem s_100_0 {d : Nat} {σ : xS} {st : List Value} {Q : xR → xS → Prop} {l1 l2 : Option Value} {x : Nat} : G d 100 0 [some (.ref x), l1, l2] st σ Q ↔ G d 100 1 [some (.ref x), l1, l2] (.ref x :: st) σ Q := gs_go f_100_0 rfl
theorem f_100_1 : ft 100 1 = some (1, .getfield 26, [7, 2, 0, 318]) := rfl
theorem s_100_1 {d : Nat} {t : yT} {st : List Value} {Q : xR → xS → Prop} {l0 l1 l2 : Option Value} {a : Nat} (ho : yisO 7 a) : G d 100 1 [l0, l1, l2] (.ref a :: st) (yemb t) Q ↔ G d 100 2 [l0, l1, l2] (.ref 7 :: st) (yemb t) Q := gs_getf (c := 7) (j := 2) (q := .c 7) f_100_1 ho rfl
theorem f_100_2 : ft 100 2 = some (4, .iload_n 1, []) := rfl
theorem s_100_2 {d : Nat} {σ : xS} {st : List Value} {Q : xR → xS → Prop} {l0 l2 : Option Value} {x : Int32} : G d 100 2 [l0, some (.int x), l2] st σ Q ↔ G d 100 3 [l0, some (.int x), l2] (.int x :: st) σ Q := gs_go f_100_2 rfl
theorem f_100_3 : ft 100 3 = some (5, .invokevirtual 166, [32, 2, 0, 1072]) := rfl
theorem s_100_3 {d : Nat} {t : yT} {st : List Value} {Q : xR → xS → Prop} {l0 l1 l2 : Option Value} {a0 : Nat} {a1 : Int32} (ho : yisO 4 a0) : G (d + 1) 100 3 [l0, l1, l2] (.int a1 :: .ref a0 :: st) (yemb t) Q ↔ xcat st ≤ 8 ∧ Cl d 32 [.ref a0, .int a1] (yemb t) (Gk (d + 1) 100 3 [l0, l1, l2] st Q) := gs_call f_100_3 ((xinv_call (i := 3) (n := 1072) (ls := [l0, l1, l2]) (kind := 0) (σ := yemb t) (by decide)).trans (xcall_vi [.int a1, .ref a0] rfl rfl (show (2 : Nat) ≤ 2 by decide) rfl ho))
theorem f_100_4 : ft 100 4 = some (8, .ifCond .ne 11, [9]) := rfl
theorem s_100_4 {d : Nat} {σ : xS} {st : List Value} {Q : xR → xS → Prop} {l0 l1 l2 : Option Value} {x : Int32} : G d 100 4 [l0, l1, l2] (.int x :: st) σ Q ↔ if x ≠ 0 then G d 100 9 [l0, l1, l2] st σ Q else G d 100 5 [l0, l1, l2] st σ Q := gs_if f_100_4 rfl
theorem f_100_5 : ft 100 5 = some (11, .new 170, [1, 1, 1073, 172]) := rfl
theorem s_100_5 {d : Nat} {σ : xS} {ls : xL} {st : List Value} {Q : xR → xS → Prop} : G d 100 5 ls st σ Q ↔ (xcat st ≤ 8 ∧ σ.2.1.1 < 900000) ∧ Q (.inr 1) (xbump (.inr 1) σ) := gs_thr (e := 1) f_100_5
theorem f_100_6 : ft 100 6 = some (14, .dup, []) := rfl
theorem s_100_6 {d : Nat} {σ : xS} {st : List Value} {Q : xR → xS → Prop} {l0 l1 l2 : Option Value} {x : Nat} : G d 100 6 [l0, l1, l2] (.ref x :: st) σ Q ↔ G d 100 7 [l0, l1, l2] (.ref x :: .ref x :: st) σ Q := gs_go f_100_6 rfl
theorem s_100_6i {d : Nat} {σ : xS} {st : List Value} {Q : xR → xS → Prop} {l0 l1 l2 : Option Value} {x : Int32} : G d 100 6 [l0, l1, l2] (.int x :: st) σ Q ↔ G d 100 7 [l0, l1, l2] (.int x :: .int x :: st) σ Q := gs_go f_100_6 rfl
theorem f_100_7 : ft 100 7 = some (15, .invokespecial 172, [0, 1, 23, 1082]) := rfl
theorem f_100_8 : ft 100 8 = some (18, .athrow, []) := rfl
theorem f_100_9 : ft 100 9 = some (19, .iload_n 2, []) := rfl
theorem s_100_9 {d : Nat} {σ : xS} {st : List Value} {Q : xR → xS → Prop} {l0 l1 : Option Value} {x : Int32} : G d 100 9 [l0, l1, some (.int x)] st σ Q ↔ G d 100 10 [l0, l1, some (.int x)] (.int x :: st) σ Q := gs_go f_100_9 rfl
theorem f_100_10 : ft 100 10 = some (20, .tableswitch 148 0 8 #[52, 62, 79, 89, 99, 108, 118, 128, 138], [67, 11, 17, 26, 32, 38, 43, 49, 55, 61]) := rfl
theorem s_100_10_0 {d : Nat} {σ : xS} {st : List Value} {Q : xR → xS → Prop} {l0 l1 l2 : Option Value} : G d 100 10 [l0, l1, l2] (.int (0) :: st) σ Q ↔ G d 100 11 [l0, l1, l2] st σ Q := gs_go f_100_10 rfl
theorem s_100_10_1 {d : Nat} {σ : xS} {st : List Value} {Q : xR → xS → Prop} {l0 l1 l2 : Option Value} : G d 100 10 [l0, l1, l2] (.int (1) :: st) σ Q ↔ G d 100 17 [l0, l1, l2] st σ Q := gs_go f_100_10 rfl
theorem s_100_10_2 {d : Nat} {σ : xS} {st : List Value} {Q : xR → xS → Prop} {l0 l1 l2 : Option Value} : G d 100 10 [l0, l1, l2] (.int (2) :: st) σ Q ↔ G d 100 26 [l0, l1, l2] st σ Q := gs_go f_100_10 rfl
theorem s_100_10_3 {d : Nat} {σ : xS} {st : List Value} {Q : xR → xS → Prop} {l0 l1 l2 : Option Value} : G d 100 10 [l0, l1, l2] (.int (3) :: st) σ Q ↔ G d 100 32 [l0, l1, l2] st σ Q := gs_go f_100_10 rfl
theorem s_100_10_4 {d : Nat} {σ : xS} {st : List Value} {Q : xR → xS → Prop} {l0 l1 l2 : Option Value} : G d 100 10 [l0, l1, l2] (.int (4) :: st) σ Q ↔ G d 100 38 [l0, l1, l2] st σ Q := gs_go f_100_10 rfl
theorem s_100_10_5 {d : Nat} {σ : xS} {st : List Value} {Q : xR → xS → Prop} {l0 l1 l2 : Option Value} : G d 100 10 [l0, l1, l2] (.int (5) :: st) σ Q ↔ G d 100 43 [l0, l1, l2] st σ Q := gs_go f_100_10 rfl
theorem s_100_10_6 {d : Nat} {σ : xS} {st : List Value} {Q : xR → xS → Prop} {l0 l1 l2 : Option Value} : G d 100 10 [l0, l1, l2] (.int (6) :: st) σ Q ↔ G d 100 49 [l0, l1, l2] st σ Q := gs_go f_100_10 rfl
theorem s_100_10_7 {d : Nat} {σ : xS} {st : List Value} {Q : xR → xS → Prop} {l0 l1 l2 : Option Value} : G d 100 10 [l0, l1, l2] (.int (7) :: st) σ Q ↔ G d 100 55 [l0, l1, l2] st σ Q := gs_go f_100_10 rfl
theorem s_100_10_8 {d : Nat} {σ : xS} {st : List Value} {Q : xR → xS → Prop} {l0 l1 l2 : Option Value} : G d 100 10 [l0, l1, l2] (.int (8) :: st) σ Q ↔ G d 100 61 [l0, l1, l2] st σ Q := gs_go f_100_10 rfl
theorem s_100_10_d {d : Nat} {σ : xS} {st : List Value} {Q : xR → xS → Prop} {l0 l1 l2 : Option Value} {x : Int32} (h : x.toInt < 0 ∨ 8 < x.toInt) : G d 100 10 [l0, l1, l2] (.int x :: st) σ Q ↔ G d 100 67 [l0, l1, l2] st σ Q := gs_go f_100_10 (if_pos h)
theorem f_100_11 : ft 100 11 = some (72, .aload_n 0, []) := rfl
theorem s_100_11 {d : Nat} {σ : xS} {st : List Value} {Q : xR → xS → Prop} {l1 l2 : Option Value} {x : Nat} : G d 100 11 [some (.ref x), l1, l2] st σ Q ↔ G d 100 12 [some (.ref x), l1, l2] (.ref x :: st) σ Q := gs_go f_100_11 rfl
theorem f_100_12 : ft 100 12 = some (73, .getfield 26, [7, 2, 0, 318]) := rfl
theorem s_100_12 {d : Nat} {t : yT} {st : List Value} {Q : xR → xS → Prop} {l0 l1 l2 : Option Value} {a : Nat} (ho : yisO 7 a) : G d 100 12 [l0, l1, l2] (.ref a :: st) (yemb t) Q ↔ G d 100 13 [l0, l1, l2] (.ref 7 :: st) (yemb t) Q := gs_getf (c := 7) (j := 2) (q := .c 7) f_100_12 ho rfl
theorem f_100_13 : ft 100 13 = some (76, .getfield 173, [4, 2, 1, 147]) := rfl
theorem s_100_13 {d : Nat} {t : yT} {st : List Value} {Q : xR → xS → Prop} {l0 l1 l2 : Option Value} {a : Nat} (ho : yisO 4 a) : G d 100 13 [l0, l1, l2] (.ref a :: st) (yemb t) Q ↔ G d 100 14 [l0, l1, l2] (.ref (a + 3) :: st) (yemb t) Q := gs_getf (c := 4) (j := 2) (q := .c (a + 3)) f_100_13 ho rfl
theorem f_100_14 : ft 100 14 = some (79, .iload_n 1, []) := rfl
theorem s_100_14 {d : Nat} {σ : xS} {st : List Value} {Q : xR → xS → Prop} {l0 l2 : Option Value} {x : Int32} : G d 100 14 [l0, some (.int x), l2] st σ Q ↔ G d 100 15 [l0, some (.int x), l2] (.int x :: st) σ Q := gs_go f_100_14 rfl
theorem f_100_15 : ft 100 15 = some (80, .iaload, []) := rfl
theorem s_100_15 {d : Nat} {t : yT} {st : List Value} {Q : xR → xS → Prop} {l0 l1 l2 : Option Value} {a : Nat} {x : Int32} (ha : yA 0 a) : G d 100 15 [l0, l1, l2] (.int x :: .ref a :: st) (yemb t) Q ↔ yix x (yn a) ∧ G d 100 16 [l0, l1, l2] (.int (t.A a x.toNatClampNeg) :: st) (yemb t) Q := gs_iald f_100_15 ha
theorem f_100_16 : ft 100 16 = some (81, .ireturn, []) := rfl
theorem s_100_16 {d : Nat} {σ : xS} {ls : xL} {Q : xR → xS → Prop} {x : Int32} : G d 100 16 ls [.int x] σ Q ↔ Q (.inl (some (.int x))) σ := gs_reti f_100_16 rfl
theorem f_100_17 : ft 100 17 = some (82, .aload_n 0, []) := rfl
theorem s_100_17 {d : Nat} {σ : xS} {st : List Value} {Q : xR → xS → Prop} {l1 l2 : Option Value} {x : Nat} : G d 100 17 [some (.ref x), l1, l2] st σ Q ↔ G d 100 18 [some (.ref x), l1, l2] (.ref x :: st) σ Q := gs_go f_100_17 rfl
theorem f_100_18 : ft 100 18 = some (83, .getfield 26, [7, 2, 0, 318]) := rfl
theorem s_100_18 {d : Nat} {t : yT} {st : List Value} {Q : xR → xS → Prop} {l0 l1 l2 : Option Value} {a : Nat} (ho : yisO 7 a) : G d 100 18 [l0, l1, l2] (.ref a :: st) (yemb t) Q ↔ G d 100 19 [l0, l1, l2] (.ref 7 :: st) (yemb t) Q := gs_getf (c := 7) (j := 2) (q := .c 7) f_100_18 ho rfl
theorem f_100_19 : ft 100 19 = some (86, .iload_n 1, []) := rfl
theorem s_100_19 {d : Nat} {σ : xS} {st : List Value} {Q : xR → xS → Prop} {l0 l2 : Option Value} {x : Int32} : G d 100 19 [l0, some (.int x), l2] st σ Q ↔ G d 100 20 [l0, some (.int x), l2] (.int x :: st) σ Q := gs_go f_100_19 rfl
theorem f_100_20 : ft 100 20 = some (87, .invokevirtual 177, [34, 2, 0, 1193]) := rfl
theorem s_100_20 {d : Nat} {t : yT} {st : List Value} {Q : xR → xS → Prop} {l0 l1 l2 : Option Value} {a0 : Nat} {a1 : Int32} (ho : yisO 4 a0) : G (d + 1) 100 20 [l0, l1, l2] (.int a1 :: .ref a0 :: st) (yemb t) Q ↔ xcat st ≤ 8 ∧ Cl d 34 [.ref a0, .int a1] (yemb t) (Gk (d + 1) 100 20 [l0, l1, l2] st Q) := gs_call f_100_20 ((xinv_call (i := 20) (n := 1193) (ls := [l0, l1, l2]) (kind := 0) (σ := yemb t) (by decide)).trans (xcall_vi [.int a1, .ref a0] rfl rfl (show (2 : Nat) ≤ 2 by decide) rfl ho))
theorem f_100_21 : ft 100 21 = some (90, .ifCond .eq 7, [24]) := rfl
theorem s_100_21 {d : Nat} {σ : xS} {st : List Value} {Q : xR → xS → Prop} {l0 l1 l2 : Option Value} {x : Int32} : G d 100 21 [l0, l1, l2] (.int x :: st) σ Q ↔ if x = 0 then G d 100 24 [l0, l1, l2] st σ Q else G d 100 22 [l0, l1, l2] st σ Q := gs_if f_100_21 rfl
theorem f_100_22 : ft 100 22 = some (93, .iconst 1, []) := rfl
theorem s_100_22 {d : Nat} {σ : xS} {st : List Value} {Q : xR → xS → Prop} {l0 l1 l2 : Option Value} : G d 100 22 [l0, l1, l2] st σ Q ↔ G d 100 23 [l0, l1, l2] (.int (1) :: st) σ Q := gs_go f_100_22 rfl
theorem f_100_23 : ft 100 23 = some (94, .goto 4, [25]) := rfl
theorem s_100_23 {d : Nat} {σ : xS} {st : List Value} {Q : xR → xS → Prop} {l0 l1 l2 : Option Value} : G d 100 23 [l0, l1, l2] st σ Q ↔ G d 100 25 [l0, l1, l2] st σ Q := gs_go f_100_23 rfl
theorem f_100_24 : ft 100 24 = some (97, .iconst 0, []) := rfl
theorem s_100_24 {d : Nat} {σ : xS} {st : List Value} {Q : xR → xS → Prop} {l0 l1 l2 : Option Value} : G d 100 24 [l0, l1, l2] st σ Q ↔ G d 100 25 [l0, l1, l2] (.int (0) :: st) σ Q := gs_go f_100_24 rfl
theorem f_100_25 : ft 100 25 = some (98, .ireturn, []) := rfl
theorem s_100_25 {d : Nat} {σ : xS} {ls : xL} {Q : xR → xS → Prop} {x : Int32} : G d 100 25 ls [.int x] σ Q ↔ Q (.inl (some (.int x))) σ := gs_reti f_100_25 rfl
theorem f_100_26 : ft 100 26 = some (99, .aload_n 0, []) := rfl
theorem s_100_26 {d : Nat} {σ : xS} {st : List Value} {Q : xR → xS → Prop} {l1 l2 : Option Value} {x : Nat} : G d 100 26 [some (.ref x), l1, l2] st σ Q ↔ G d 100 27 [some (.ref x), l1, l2] (.ref x :: st) σ Q := gs_go f_100_26 rfl
theorem f_100_27 : ft 100 27 = some (100, .getfield 26, [7, 2, 0, 318]) := rfl
theorem s_100_27 {d : Nat} {t : yT} {st : List Value} {Q : xR → xS → Prop} {l0 l1 l2 : Option Value} {a : Nat} (ho : yisO 7 a) : G d 100 27 [l0, l1, l2] (.ref a :: st) (yemb t) Q ↔ G d 100 28 [l0, l1, l2] (.ref 7 :: st) (yemb t) Q := gs_getf (c := 7) (j := 2) (q := .c 7) f_100_27 ho rfl
theorem f_100_28 : ft 100 28 = some (103, .getfield 180, [4, 3, 1, 149]) := rfl
theorem s_100_28 {d : Nat} {t : yT} {st : List Value} {Q : xR → xS → Prop} {l0 l1 l2 : Option Value} {a : Nat} (ho : yisO 4 a) : G d 100 28 [l0, l1, l2] (.ref a :: st) (yemb t) Q ↔ G d 100 29 [l0, l1, l2] (.ref (a + 4) :: st) (yemb t) Q := gs_getf (c := 4) (j := 3) (q := .c (a + 4)) f_100_28 ho rfl
theorem f_100_29 : ft 100 29 = some (106, .iload_n 1, []) := rfl
theorem s_100_29 {d : Nat} {σ : xS} {st : List Value} {Q : xR → xS → Prop} {l0 l2 : Option Value} {x : Int32} : G d 100 29 [l0, some (.int x), l2] st σ Q ↔ G d 100 30 [l0, some (.int x), l2] (.int x :: st) σ Q := gs_go f_100_29 rfl
theorem f_100_30 : ft 100 30 = some (107, .iaload, []) := rfl
theorem s_100_30 {d : Nat} {t : yT} {st : List Value} {Q : xR → xS → Prop} {l0 l1 l2 : Option Value} {a : Nat} {x : Int32} (ha : yA 0 a) : G d 100 30 [l0, l1, l2] (.int x :: .ref a :: st) (yemb t) Q ↔ yix x (yn a) ∧ G d 100 31 [l0, l1, l2] (.int (t.A a x.toNatClampNeg) :: st) (yemb t) Q := gs_iald f_100_30 ha
theorem f_100_31 : ft 100 31 = some (108, .ireturn, []) := rfl
theorem s_100_31 {d : Nat} {σ : xS} {ls : xL} {Q : xR → xS → Prop} {x : Int32} : G d 100 31 ls [.int x] σ Q ↔ Q (.inl (some (.int x))) σ := gs_reti f_100_31 rfl
theorem f_100_32 : ft 100 32 = some (109, .aload_n 0, []) := rfl
theorem s_100_32 {d : Nat} {σ : xS} {st : List Value} {Q : xR → xS → Prop} {l1 l2 : Option Value} {x : Nat} : G d 100 32 [some (.ref x), l1, l2] st σ Q ↔ G d 100 33 [some (.ref x), l1, l2] (.ref x :: st) σ Q := gs_go f_100_32 rfl
theorem f_100_33 : ft 100 33 = some (110, .getfield 26, [7, 2, 0, 318]) := rfl
theorem s_100_33 {d : Nat} {t : yT} {st : List Value} {Q : xR → xS → Prop} {l0 l1 l2 : Option Value} {a : Nat} (ho : yisO 7 a) : G d 100 33 [l0, l1, l2] (.ref a :: st) (yemb t) Q ↔ G d 100 34 [l0, l1, l2] (.ref 7 :: st) (yemb t) Q := gs_getf (c := 7) (j := 2) (q := .c 7) f_100_33 ho rfl
theorem f_100_34 : ft 100 34 = some (113, .getfield 183, [4, 4, 1, 151]) := rfl
theorem s_100_34 {d : Nat} {t : yT} {st : List Value} {Q : xR → xS → Prop} {l0 l1 l2 : Option Value} {a : Nat} (ho : yisO 4 a) : G d 100 34 [l0, l1, l2] (.ref a :: st) (yemb t) Q ↔ G d 100 35 [l0, l1, l2] (.ref (a + 5) :: st) (yemb t) Q := gs_getf (c := 4) (j := 4) (q := .c (a + 5)) f_100_34 ho rfl
theorem f_100_35 : ft 100 35 = some (116, .iload_n 1, []) := rfl
theorem s_100_35 {d : Nat} {σ : xS} {st : List Value} {Q : xR → xS → Prop} {l0 l2 : Option Value} {x : Int32} : G d 100 35 [l0, some (.int x), l2] st σ Q ↔ G d 100 36 [l0, some (.int x), l2] (.int x :: st) σ Q := gs_go f_100_35 rfl
theorem f_100_36 : ft 100 36 = some (117, .iaload, []) := rfl
theorem s_100_36 {d : Nat} {t : yT} {st : List Value} {Q : xR → xS → Prop} {l0 l1 l2 : Option Value} {a : Nat} {x : Int32} (ha : yA 0 a) : G d 100 36 [l0, l1, l2] (.int x :: .ref a :: st) (yemb t) Q ↔ yix x (yn a) ∧ G d 100 37 [l0, l1, l2] (.int (t.A a x.toNatClampNeg) :: st) (yemb t) Q := gs_iald f_100_36 ha
theorem f_100_37 : ft 100 37 = some (118, .ireturn, []) := rfl
theorem s_100_37 {d : Nat} {σ : xS} {ls : xL} {Q : xR → xS → Prop} {x : Int32} : G d 100 37 ls [.int x] σ Q ↔ Q (.inl (some (.int x))) σ := gs_reti f_100_37 rfl
theorem f_100_38 : ft 100 38 = some (119, .aload_n 0, []) := rfl
theorem s_100_38 {d : Nat} {σ : xS} {st : List Value} {Q : xR → xS → Prop} {l1 l2 : Option Value} {x : Nat} : G d 100 38 [some (.ref x), l1, l2] st σ Q ↔ G d 100 39 [some (.ref x), l1, l2] (.ref x :: st) σ Q := gs_go f_100_38 rfl
theorem f_100_39 : ft 100 39 = some (120, .getfield 26, [7, 2, 0, 318]) := rfl
theorem s_100_39 {d : Nat} {t : yT} {st : List Value} {Q : xR → xS → Prop} {l0 l1 l2 : Option Value} {a : Nat} (ho : yisO 7 a) : G d 100 39 [l0, l1, l2] (.ref a :: st) (yemb t) Q ↔ G d 100 40 [l0, l1, l2] (.ref 7 :: st) (yemb t) Q := gs_getf (c := 7) (j := 2) (q := .c 7) f_100_39 ho rfl
theorem f_100_40 : ft 100 40 = some (123, .iload_n 1, []) := rfl
theorem s_100_40 {d : Nat} {σ : xS} {st : List Value} {Q : xR → xS → Prop} {l0 l2 : Option Value} {x : Int32} : G d 100 40 [l0, some (.int x), l2] st σ Q ↔ G d 100 41 [l0, some (.int x), l2] (.int x :: st) σ Q := gs_go f_100_40 rfl
theorem f_100_41 : ft 100 41 = some (124, .invokevirtual 186, [48, 2, 0, 1628]) := rfl
theorem s_100_41 {d : Nat} {t : yT} {st : List Value} {Q : xR → xS → Prop} {l0 l1 l2 : Option Value} {a0 : Nat} {a1 : Int32} (ho : yisO 4 a0) : G (d + 1) 100 41 [l0, l1, l2] (.int a1 :: .ref a0 :: st) (yemb t) Q ↔ xcat st ≤ 8 ∧ Cl d 48 [.ref a0, .int a1] (yemb t) (Gk (d + 1) 100 41 [l0, l1, l2] st Q) := gs_call f_100_41 ((xinv_call (i := 41) (n := 1628) (ls := [l0, l1, l2]) (kind := 0) (σ := yemb t) (by decide)).trans (xcall_vi [.int a1, .ref a0] rfl rfl (show (2 : Nat) ≤ 3 by decide) rfl ho))
theorem f_100_42 : ft 100 42 = some (127, .ireturn, []) := rfl
theorem s_100_42 {d : Nat} {σ : xS} {ls : xL} {Q : xR → xS → Prop} {x : Int32} : G d 100 42 ls [.int x] σ Q ↔ Q (.inl (some (.int x))) σ := gs_reti f_100_42 rfl
theorem f_100_43 : ft 100 43 = some (128, .aload_n 0, []) := rfl
theorem s_100_43 {d : Nat} {σ : xS} {st : List Value} {Q : xR → xS → Prop} {l1 l2 : Option Value} {x : Nat} : G d 100 43 [some (.ref x), l1, l2] st σ Q ↔ G d 100 44 [some (.ref x), l1, l2] (.ref x :: st) σ Q := gs_go f_100_43 rfl
theorem f_100_44 : ft 100 44 = some (129, .getfield 26, [7, 2, 0, 318]) := rfl
theorem s_100_44 {d : Nat} {t : yT} {st : List Value} {Q : xR → xS → Prop} {l0 l1 l2 : Option Value} {a : Nat} (ho : yisO 7 a) : G d 100 44 [l0, l1, l2] (.ref a :: st) (yemb t) Q ↔ G d 100 45 [l0, l1, l2] (.ref 7 :: st) (yemb t) Q := gs_getf (c := 7) (j := 2) (q := .c 7) f_100_44 ho rfl
theorem f_100_45 : ft 100 45 = some (132, .getfield 190, [4, 5, 1, 153]) := rfl
theorem s_100_45 {d : Nat} {t : yT} {st : List Value} {Q : xR → xS → Prop} {l0 l1 l2 : Option Value} {a : Nat} (ho : yisO 4 a) : G d 100 45 [l0, l1, l2] (.ref a :: st) (yemb t) Q ↔ G d 100 46 [l0, l1, l2] (.ref (a + 6) :: st) (yemb t) Q := gs_getf (c := 4) (j := 5) (q := .c (a + 6)) f_100_45 ho rfl
theorem f_100_46 : ft 100 46 = some (135, .iload_n 1, []) := rfl
theorem s_100_46 {d : Nat} {σ : xS} {st : List Value} {Q : xR → xS → Prop} {l0 l2 : Option Value} {x : Int32} : G d 100 46 [l0, some (.int x), l2] st σ Q ↔ G d 100 47 [l0, some (.int x), l2] (.int x :: st) σ Q := gs_go f_100_46 rfl
theorem f_100_47 : ft 100 47 = some (136, .iaload, []) := rfl
theorem s_100_47 {d : Nat} {t : yT} {st : List Value} {Q : xR → xS → Prop} {l0 l1 l2 : Option Value} {a : Nat} {x : Int32} (ha : yA 0 a) : G d 100 47 [l0, l1, l2] (.int x :: .ref a :: st) (yemb t) Q ↔ yix x (yn a) ∧ G d 100 48 [l0, l1, l2] (.int (t.A a x.toNatClampNeg) :: st) (yemb t) Q := gs_iald f_100_47 ha
theorem f_100_48 : ft 100 48 = some (137, .ireturn, []) := rfl
theorem s_100_48 {d : Nat} {σ : xS} {ls : xL} {Q : xR → xS → Prop} {x : Int32} : G d 100 48 ls [.int x] σ Q ↔ Q (.inl (some (.int x))) σ := gs_reti f_100_48 rfl
theorem f_100_49 : ft 100 49 = some (138, .aload_n 0, []) := rfl
theorem s_100_49 {d : Nat} {σ : xS} {st : List Value} {Q : xR → xS → Prop} {l1 l2 : Option Value} {x : Nat} : G d 100 49 [some (.ref x), l1, l2] st σ Q ↔ G d 100 50 [some (.ref x), l1, l2] (.ref x :: st) σ Q := gs_go f_100_49 rfl
theorem f_100_50 : ft 100 50 = some (139, .getfield 26, [7, 2, 0, 318]) := rfl
theorem s_100_50 {d : Nat} {t : yT} {st : List Value} {Q : xR → xS → Prop} {l0 l1 l2 : Option Value} {a : Nat} (ho : yisO 7 a) : G d 100 50 [l0, l1, l2] (.ref a :: st) (yemb t) Q ↔ G d 100 51 [l0, l1, l2] (.ref 7 :: st) (yemb t) Q := gs_getf (c := 7) (j := 2) (q := .c 7) f_100_50 ho rfl
theorem f_100_51 : ft 100 51 = some (142, .getfield 193, [4, 1, 1, 145]) := rfl
theorem s_100_51 {d : Nat} {t : yT} {st : List Value} {Q : xR → xS → Prop} {l0 l1 l2 : Option Value} {a : Nat} (ho : yisO 4 a) : G d 100 51 [l0, l1, l2] (.ref a :: st) (yemb t) Q ↔ G d 100 52 [l0, l1, l2] (.ref (a + 2) :: st) (yemb t) Q := gs_getf (c := 4) (j := 1) (q := .c (a + 2)) f_100_51 ho rfl
theorem f_100_52 : ft 100 52 = some (145, .iload_n 1, []) := rfl
theorem s_100_52 {d : Nat} {σ : xS} {st : List Value} {Q : xR → xS → Prop} {l0 l2 : Option Value} {x : Int32} : G d 100 52 [l0, some (.int x), l2] st σ Q ↔ G d 100 53 [l0, some (.int x), l2] (.int x :: st) σ Q := gs_go f_100_52 rfl
theorem f_100_53 : ft 100 53 = some (146, .iaload, []) := rfl
theorem s_100_53 {d : Nat} {t : yT} {st : List Value} {Q : xR → xS → Prop} {l0 l1 l2 : Option Value} {a : Nat} {x : Int32} (ha : yA 0 a) : G d 100 53 [l0, l1, l2] (.int x :: .ref a :: st) (yemb t) Q ↔ yix x (yn a) ∧ G d 100 54 [l0, l1, l2] (.int (t.A a x.toNatClampNeg) :: st) (yemb t) Q := gs_iald f_100_53 ha
theorem f_100_54 : ft 100 54 = some (147, .ireturn, []) := rfl
theorem s_100_54 {d : Nat} {σ : xS} {ls : xL} {Q : xR → xS → Prop} {x : Int32} : G d 100 54 ls [.int x] σ Q ↔ Q (.inl (some (.int x))) σ := gs_reti f_100_54 rfl
theorem f_100_55 : ft 100 55 = some (148, .aload_n 0, []) := rfl
theorem s_100_55 {d : Nat} {σ : xS} {st : List Value} {Q : xR → xS → Prop} {l1 l2 : Option Value} {x : Nat} : G d 100 55 [some (.ref x), l1, l2] st σ Q ↔ G d 100 56 [some (.ref x), l1, l2] (.ref x :: st) σ Q := gs_go f_100_55 rfl
theorem f_100_56 : ft 100 56 = some (149, .getfield 26, [7, 2, 0, 318]) := rfl
theorem s_100_56 {d : Nat} {t : yT} {st : List Value} {Q : xR → xS → Prop} {l0 l1 l2 : Option Value} {a : Nat} (ho : yisO 7 a) : G d 100 56 [l0, l1, l2] (.ref a :: st) (yemb t) Q ↔ G d 100 57 [l0, l1, l2] (.ref 7 :: st) (yemb t) Q := gs_getf (c := 7) (j := 2) (q := .c 7) f_100_56 ho rfl
theorem f_100_57 : ft 100 57 = some (152, .getfield 196, [4, 6, 1, 155]) := rfl
theorem s_100_57 {d : Nat} {t : yT} {st : List Value} {Q : xR → xS → Prop} {l0 l1 l2 : Option Value} {a : Nat} (ho : yisO 4 a) : G d 100 57 [l0, l1, l2] (.ref a :: st) (yemb t) Q ↔ G d 100 58 [l0, l1, l2] (.ref (a + 7) :: st) (yemb t) Q := gs_getf (c := 4) (j := 6) (q := .c (a + 7)) f_100_57 ho rfl
theorem f_100_58 : ft 100 58 = some (155, .iload_n 1, []) := rfl
theorem s_100_58 {d : Nat} {σ : xS} {st : List Value} {Q : xR → xS → Prop} {l0 l2 : Option Value} {x : Int32} : G d 100 58 [l0, some (.int x), l2] st σ Q ↔ G d 100 59 [l0, some (.int x), l2] (.int x :: st) σ Q := gs_go f_100_58 rfl
theorem f_100_59 : ft 100 59 = some (156, .iaload, []) := rfl
theorem s_100_59 {d : Nat} {t : yT} {st : List Value} {Q : xR → xS → Prop} {l0 l1 l2 : Option Value} {a : Nat} {x : Int32} (ha : yA 0 a) : G d 100 59 [l0, l1, l2] (.int x :: .ref a :: st) (yemb t) Q ↔ yix x (yn a) ∧ G d 100 60 [l0, l1, l2] (.int (t.A a x.toNatClampNeg) :: st) (yemb t) Q := gs_iald f_100_59 ha
theorem f_100_60 : ft 100 60 = some (157, .ireturn, []) := rfl
theorem s_100_60 {d : Nat} {σ : xS} {ls : xL} {Q : xR → xS → Prop} {x : Int32} : G d 100 60 ls [.int x] σ Q ↔ Q (.inl (some (.int x))) σ := gs_reti f_100_60 rfl
theorem f_100_61 : ft 100 61 = some (158, .aload_n 0, []) := rfl
theorem s_100_61 {d : Nat} {σ : xS} {st : List Value} {Q : xR → xS → Prop} {l1 l2 : Option Value} {x : Nat} : G d 100 61 [some (.ref x), l1, l2] st σ Q ↔ G d 100 62 [some (.ref x), l1, l2] (.ref x :: st) σ Q := gs_go f_100_61 rfl
theorem f_100_62 : ft 100 62 = some (159, .getfield 26, [7, 2, 0, 318]) := rfl
theorem s_100_62 {d : Nat} {t : yT} {st : List Value} {Q : xR → xS → Prop} {l0 l1 l2 : Option Value} {a : Nat} (ho : yisO 7 a) : G d 100 62 [l0, l1, l2] (.ref a :: st) (yemb t) Q ↔ G d 100 63 [l0, l1, l2] (.ref 7 :: st) (yemb t) Q := gs_getf (c := 7) (j := 2) (q := .c 7) f_100_62 ho rfl
theorem f_100_63 : ft 100 63 = some (162, .getfield 199, [4, 0, 1, 143]) := rfl
theorem s_100_63 {d : Nat} {t : yT} {st : List Value} {Q : xR → xS → Prop} {l0 l1 l2 : Option Value} {a : Nat} (ho : yisO 4 a) : G d 100 63 [l0, l1, l2] (.ref a :: st) (yemb t) Q ↔ G d 100 64 [l0, l1, l2] (.ref (a + 1) :: st) (yemb t) Q := gs_getf (c := 4) (j := 0) (q := .c (a + 1)) f_100_63 ho rfl
theorem f_100_64 : ft 100 64 = some (165, .iload_n 1, []) := rfl
theorem s_100_64 {d : Nat} {σ : xS} {st : List Value} {Q : xR → xS → Prop} {l0 l2 : Option Value} {x : Int32} : G d 100 64 [l0, some (.int x), l2] st σ Q ↔ G d 100 65 [l0, some (.int x), l2] (.int x :: st) σ Q := gs_go f_100_64 rfl
theorem f_100_65 : ft 100 65 = some (166, .iaload, []) := rfl
theorem s_100_65 {d : Nat} {t : yT} {st : List Value} {Q : xR → xS → Prop} {l0 l1 l2 : Option Value} {a : Nat} {x : Int32} (ha : yA 0 a) : G d 100 65 [l0, l1, l2] (.int x :: .ref a :: st) (yemb t) Q ↔ yix x (yn a) ∧ G d 100 66 [l0, l1, l2] (.int (t.A a x.toNatClampNeg) :: st) (yemb t) Q := gs_iald f_100_65 ha
theorem f_100_66 : ft 100 66 = some (167, .ireturn, []) := rfl
theorem s_100_66 {d : Nat} {σ : xS} {ls : xL} {Q : xR → xS → Prop} {x : Int32} : G d 100 66 ls [.int x] σ Q ↔ Q (.inl (some (.int x))) σ := gs_reti f_100_66 rfl
theorem f_100_67 : ft 100 67 = some (168, .new 86, [1, 0, 594, 88]) := rfl
theorem s_100_67 {d : Nat} {σ : xS} {ls : xL} {st : List Value} {Q : xR → xS → Prop} : G d 100 67 ls st σ Q ↔ (xcat st ≤ 8 ∧ σ.2.1.1 < 900000) ∧ Q (.inr 0) (xbump (.inr 0) σ) := gs_thr (e := 0) f_100_67
theorem f_100_68 : ft 100 68 = some (171, .dup, []) := rfl
theorem s_100_68 {d : Nat} {σ : xS} {st : List Value} {Q : xR → xS → Prop} {l0 l1 l2 : Option Value} {x : Nat} : G d 100 68 [l0, l1, l2] (.ref x :: st) σ Q ↔ G d 100 69 [l0, l1, l2] (.ref x :: .ref x :: st) σ Q := gs_go f_100_68 rfl
theorem s_100_68i {d : Nat} {σ : xS} {st : List Value} {Q : xR → xS → Prop} {l0 l1 l2 : Option Value} {x : Int32} : G d 100 68 [l0, l1, l2] (.int x :: st) σ Q ↔ G d 100 69 [l0, l1, l2] (.int x :: .int x :: st) σ Q := gs_go f_100_68 rfl
theorem f_100_69 : ft 100 69 = some (172, .invokespecial 88, [0, 1, 23, 636]) := rfl
theorem f_100_70 : ft 100 70 = some (175, .athrow, []) := rfl
theorem f_101_0 : ft 101 0 = some (0, .aload_n 0, []) := rfl
theorem s_101_0 {d : Nat} {σ : xS} {st : List Value} {Q : xR → xS → Prop} {l1 l2 : Option Value} {x : Nat} : G d 101 0 [some (.ref x), l1, l2] st σ Q ↔ G d 101 1 [some (.ref x), l1, l2] (.ref x :: st) σ Q := gs_go f_101_0 rfl
theorem f_101_1 : ft 101 1 = some (1, .getfield 26, [7, 2, 0, 318]) := rfl
theorem s_101_1 {d : Nat} {t : yT} {st : List Value} {Q : xR → xS → Prop} {l0 l1 l2 : Option Value} {a : Nat} (ho : yisO 7 a) : G d 101 1 [l0, l1, l2] (.ref a :: st) (yemb t) Q ↔ G d 101 2 [l0, l1, l2] (.ref 7 :: st) (yemb t) Q := gs_getf (c := 7) (j := 2) (q := .c 7) f_101_1 ho rfl
theorem f_101_2 : ft 101 2 = some (4, .iload_n 1, []) := rfl
theorem s_101_2 {d : Nat} {σ : xS} {st : List Value} {Q : xR → xS → Prop} {l0 l2 : Option Value} {x : Int32} : G d 101 2 [l0, some (.int x), l2] st σ Q ↔ G d 101 3 [l0, some (.int x), l2] (.int x :: st) σ Q := gs_go f_101_2 rfl
theorem f_101_3 : ft 101 3 = some (5, .invokevirtual 202, [33, 2, 0, 1232]) := rfl
theorem s_101_3 {d : Nat} {t : yT} {st : List Value} {Q : xR → xS → Prop} {l0 l1 l2 : Option Value} {a0 : Nat} {a1 : Int32} (ho : yisO 4 a0) : G (d + 1) 101 3 [l0, l1, l2] (.int a1 :: .ref a0 :: st) (yemb t) Q ↔ xcat st ≤ 8 ∧ Cl d 33 [.ref a0, .int a1] (yemb t) (Gk (d + 1) 101 3 [l0, l1, l2] st Q) := gs_call f_101_3 ((xinv_call (i := 3) (n := 1232) (ls := [l0, l1, l2]) (kind := 0) (σ := yemb t) (by decide)).trans (xcall_vi [.int a1, .ref a0] rfl rfl (show (2 : Nat) ≤ 2 by decide) rfl ho))
theorem f_101_4 : ft 101 4 = some (8, .ifCond .ne 11, [9]) := rfl
theorem s_101_4 {d : Nat} {σ : xS} {st : List Value} {Q : xR → xS → Prop} {l0 l1 l2 : Option Value} {x : Int32} : G d 101 4 [l0, l1, l2] (.int x :: st) σ Q ↔ if x ≠ 0 then G d 101 9 [l0, l1, l2] st σ Q else G d 101 5 [l0, l1, l2] st σ Q := gs_if f_101_4 rfl
theorem f_101_5 : ft 101 5 = some (11, .new 170, [1, 1, 1073, 172]) := rfl
theorem s_101_5 {d : Nat} {σ : xS} {ls : xL} {st : List Value} {Q : xR → xS → Prop} : G d 101 5 ls st σ Q ↔ (xcat st ≤ 8 ∧ σ.2.1.1 < 900000) ∧ Q (.inr 1) (xbump (.inr 1) σ) := gs_thr (e := 1) f_101_5
theorem f_101_6 : ft 101 6 = some (14, .dup, []) := rfl
theorem s_101_6 {d : Nat} {σ : xS} {st : List Value} {Q : xR → xS → Prop} {l0 l1 l2 : Option Value} {x : Nat} : G d 101 6 [l0, l1, l2] (.ref x :: st) σ Q ↔ G d 101 7 [l0, l1, l2] (.ref x :: .ref x :: st) σ Q := gs_go f_101_6 rfl
theorem s_101_6i {d : Nat} {σ : xS} {st : List Value} {Q : xR → xS → Prop} {l0 l1 l2 : Option Value} {x : Int32} : G d 101 6 [l0, l1, l2] (.int x :: st) σ Q ↔ G d 101 7 [l0, l1, l2] (.int x :: .int x :: st) σ Q := gs_go f_101_6 rfl
theorem f_101_7 : ft 101 7 = some (15, .invokespecial 172, [0, 1, 23, 1082]) := rfl
theorem f_101_8 : ft 101 8 = some (18, .athrow, []) := rfl
theorem f_101_9 : ft 101 9 = some (19, .iload_n 2, []) := rfl
theorem s_101_9 {d : Nat} {σ : xS} {st : List Value} {Q : xR → xS → Prop} {l0 l1 : Option Value} {x : Int32} : G d 101 9 [l0, l1, some (.int x)] st σ Q ↔ G d 101 10 [l0, l1, some (.int x)] (.int x :: st) σ Q := gs_go f_101_9 rfl
theorem f_101_10 : ft 101 10 = some (20, .tableswitch 70 0 3 #[32, 42, 52, 61], [33, 11, 17, 23, 28]) := rfl
theorem s_101_10_0 {d : Nat} {σ : xS} {st : List Value} {Q : xR → xS → Prop} {l0 l1 l2 : Option Value} : G d 101 10 [l0, l1, l2] (.int (0) :: st) σ Q ↔ G d 101 11 [l0, l1, l2] st σ Q := gs_go f_101_10 rfl
theorem s_101_10_1 {d : Nat} {σ : xS} {st : List Value} {Q : xR → xS → Prop} {l0 l1 l2 : Option Value} : G d 101 10 [l0, l1, l2] (.int (1) :: st) σ Q ↔ G d 101 17 [l0, l1, l2] st σ Q := gs_go f_101_10 rfl
theorem s_101_10_2 {d : Nat} {σ : xS} {st : List Value} {Q : xR → xS → Prop} {l0 l1 l2 : Option Value} : G d 101 10 [l0, l1, l2] (.int (2) :: st) σ Q ↔ G d 101 23 [l0, l1, l2] st σ Q := gs_go f_101_10 rfl
theorem s_101_10_3 {d : Nat} {σ : xS} {st : List Value} {Q : xR → xS → Prop} {l0 l1 l2 : Option Value} : G d 101 10 [l0, l1, l2] (.int (3) :: st) σ Q ↔ G d 101 28 [l0, l1, l2] st σ Q := gs_go f_101_10 rfl
theorem s_101_10_d {d : Nat} {σ : xS} {st : List Value} {Q : xR → xS → Prop} {l0 l1 l2 : Option Value} {x : Int32} (h : x.toInt < 0 ∨ 3 < x.toInt) : G d 101 10 [l0, l1, l2] (.int x :: st) σ Q ↔ G d 101 33 [l0, l1, l2] st σ Q := gs_go f_101_10 (if_pos h)
theorem f_101_11 : ft 101 11 = some (52, .aload_n 0, []) := rfl
theorem s_101_11 {d : Nat} {σ : xS} {st : List Value} {Q : xR → xS → Prop} {l1 l2 : Option Value} {x : Nat} : G d 101 11 [some (.ref x), l1, l2] st σ Q ↔ G d 101 12 [some (.ref x), l1, l2] (.ref x :: st) σ Q := gs_go f_101_11 rfl
theorem f_101_12 : ft 101 12 = some (53, .getfield 26, [7, 2, 0, 318]) := rfl
theorem s_101_12 {d : Nat} {t : yT} {st : List Value} {Q : xR → xS → Prop} {l0 l1 l2 : Option Value} {a : Nat} (ho : yisO 7 a) : G d 101 12 [l0, l1, l2] (.ref a :: st) (yemb t) Q ↔ G d 101 13 [l0, l1, l2] (.ref 7 :: st) (yemb t) Q := gs_getf (c := 7) (j := 2) (q := .c 7) f_101_12 ho rfl
theorem f_101_13 : ft 101 13 = some (56, .getfield 205, [4, 7, 1, 157]) := rfl
theorem s_101_13 {d : Nat} {t : yT} {st : List Value} {Q : xR → xS → Prop} {l0 l1 l2 : Option Value} {a : Nat} (ho : yisO 4 a) : G d 101 13 [l0, l1, l2] (.ref a :: st) (yemb t) Q ↔ G d 101 14 [l0, l1, l2] (.ref (a + 8) :: st) (yemb t) Q := gs_getf (c := 4) (j := 7) (q := .c (a + 8)) f_101_13 ho rfl
theorem f_101_14 : ft 101 14 = some (59, .iload_n 1, []) := rfl
theorem s_101_14 {d : Nat} {σ : xS} {st : List Value} {Q : xR → xS → Prop} {l0 l2 : Option Value} {x : Int32} : G d 101 14 [l0, some (.int x), l2] st σ Q ↔ G d 101 15 [l0, some (.int x), l2] (.int x :: st) σ Q := gs_go f_101_14 rfl
theorem f_101_15 : ft 101 15 = some (60, .iaload, []) := rfl
theorem s_101_15 {d : Nat} {t : yT} {st : List Value} {Q : xR → xS → Prop} {l0 l1 l2 : Option Value} {a : Nat} {x : Int32} (ha : yA 0 a) : G d 101 15 [l0, l1, l2] (.int x :: .ref a :: st) (yemb t) Q ↔ yix x (yn a) ∧ G d 101 16 [l0, l1, l2] (.int (t.A a x.toNatClampNeg) :: st) (yemb t) Q := gs_iald f_101_15 ha
theorem f_101_16 : ft 101 16 = some (61, .ireturn, []) := rfl
theorem s_101_16 {d : Nat} {σ : xS} {ls : xL} {Q : xR → xS → Prop} {x : Int32} : G d 101 16 ls [.int x] σ Q ↔ Q (.inl (some (.int x))) σ := gs_reti f_101_16 rfl
theorem f_101_17 : ft 101 17 = some (62, .aload_n 0, []) := rfl
theorem s_101_17 {d : Nat} {σ : xS} {st : List Value} {Q : xR → xS → Prop} {l1 l2 : Option Value} {x : Nat} : G d 101 17 [some (.ref x), l1, l2] st σ Q ↔ G d 101 18 [some (.ref x), l1, l2] (.ref x :: st) σ Q := gs_go f_101_17 rfl
theorem f_101_18 : ft 101 18 = some (63, .getfield 26, [7, 2, 0, 318]) := rfl
theorem s_101_18 {d : Nat} {t : yT} {st : List Value} {Q : xR → xS → Prop} {l0 l1 l2 : Option Value} {a : Nat} (ho : yisO 7 a) : G d 101 18 [l0, l1, l2] (.ref a :: st) (yemb t) Q ↔ G d 101 19 [l0, l1, l2] (.ref 7 :: st) (yemb t) Q := gs_getf (c := 7) (j := 2) (q := .c 7) f_101_18 ho rfl
theorem f_101_19 : ft 101 19 = some (66, .getfield 208, [4, 8, 1, 159]) := rfl
theorem s_101_19 {d : Nat} {t : yT} {st : List Value} {Q : xR → xS → Prop} {l0 l1 l2 : Option Value} {a : Nat} (ho : yisO 4 a) : G d 101 19 [l0, l1, l2] (.ref a :: st) (yemb t) Q ↔ G d 101 20 [l0, l1, l2] (.ref (a + 9) :: st) (yemb t) Q := gs_getf (c := 4) (j := 8) (q := .c (a + 9)) f_101_19 ho rfl
theorem f_101_20 : ft 101 20 = some (69, .iload_n 1, []) := rfl
theorem s_101_20 {d : Nat} {σ : xS} {st : List Value} {Q : xR → xS → Prop} {l0 l2 : Option Value} {x : Int32} : G d 101 20 [l0, some (.int x), l2] st σ Q ↔ G d 101 21 [l0, some (.int x), l2] (.int x :: st) σ Q := gs_go f_101_20 rfl
theorem f_101_21 : ft 101 21 = some (70, .iaload, []) := rfl
theorem s_101_21 {d : Nat} {t : yT} {st : List Value} {Q : xR → xS → Prop} {l0 l1 l2 : Option Value} {a : Nat} {x : Int32} (ha : yA 0 a) : G d 101 21 [l0, l1, l2] (.int x :: .ref a :: st) (yemb t) Q ↔ yix x (yn a) ∧ G d 101 22 [l0, l1, l2] (.int (t.A a x.toNatClampNeg) :: st) (yemb t) Q := gs_iald f_101_21 ha
theorem f_101_22 : ft 101 22 = some (71, .ireturn, []) := rfl
theorem s_101_22 {d : Nat} {σ : xS} {ls : xL} {Q : xR → xS → Prop} {x : Int32} : G d 101 22 ls [.int x] σ Q ↔ Q (.inl (some (.int x))) σ := gs_reti f_101_22 rfl
theorem f_101_23 : ft 101 23 = some (72, .aload_n 0, []) := rfl
theorem s_101_23 {d : Nat} {σ : xS} {st : List Value} {Q : xR → xS → Prop} {l1 l2 : Option Value} {x : Nat} : G d 101 23 [some (.ref x), l1, l2] st σ Q ↔ G d 101 24 [some (.ref x), l1, l2] (.ref x :: st) σ Q := gs_go f_101_23 rfl
theorem f_101_24 : ft 101 24 = some (73, .getfield 26, [7, 2, 0, 318]) := rfl
theorem s_101_24 {d : Nat} {t : yT} {st : List Value} {Q : xR → xS → Prop} {l0 l1 l2 : Option Value} {a : Nat} (ho : yisO 7 a) : G d 101 24 [l0, l1, l2] (.ref a :: st) (yemb t) Q ↔ G d 101 25 [l0, l1, l2] (.ref 7 :: st) (yemb t) Q := gs_getf (c := 7) (j := 2) (q := .c 7) f_101_24 ho rfl
theorem f_101_25 : ft 101 25 = some (76, .iload_n 1, []) := rfl
theorem s_101_25 {d : Nat} {σ : xS} {st : List Value} {Q : xR → xS → Prop} {l0 l2 : Option Value} {x : Int32} : G d 101 25 [l0, some (.int x), l2] st σ Q ↔ G d 101 26 [l0, some (.int x), l2] (.int x :: st) σ Q := gs_go f_101_25 rfl
theorem f_101_26 : ft 101 26 = some (77, .invokevirtual 211, [44, 2, 0, 1636]) := rfl
theorem s_101_26 {d : Nat} {t : yT} {st : List Value} {Q : xR → xS → Prop} {l0 l1 l2 : Option Value} {a0 : Nat} {a1 : Int32} (ho : yisO 4 a0) : G (d + 1) 101 26 [l0, l1, l2] (.int a1 :: .ref a0 :: st) (yemb t) Q ↔ xcat st ≤ 8 ∧ Cl d 44 [.ref a0, .int a1] (yemb t) (Gk (d + 1) 101 26 [l0, l1, l2] st Q) := gs_call f_101_26 ((xinv_call (i := 26) (n := 1636) (ls := [l0, l1, l2]) (kind := 0) (σ := yemb t) (by decide)).trans (xcall_vi [.int a1, .ref a0] rfl rfl (show (2 : Nat) ≤ 4 by decide) rfl ho))
theorem f_101_27 : ft 101 27 = some (80, .ireturn, []) := rfl
theorem s_101_27 {d : Nat} {σ : xS} {ls : xL} {Q : xR → xS → Prop} {x : Int32} : G d 101 27 ls [.int x] σ Q ↔ Q (.inl (some (.int x))) σ := gs_reti f_101_27 rfl
theorem f_101_28 : ft 101 28 = some (81, .aload_n 0, []) := rfl
theorem s_101_28 {d : Nat} {σ : xS} {st : List Value} {Q : xR → xS → Prop} {l1 l2 : Option Value} {x : Nat} : G d 101 28 [some (.ref x), l1, l2] st σ Q ↔ G d 101 29 [some (.ref x), l1, l2] (.ref x :: st) σ Q := gs_go f_101_28 rfl
theorem f_101_29 : ft 101 29 = some (82, .getfield 26, [7, 2, 0, 318]) := rfl
theorem s_101_29 {d : Nat} {t : yT} {st : List Value} {Q : xR → xS → Prop} {l0 l1 l2 : Option Value} {a : Nat} (ho : yisO 7 a) : G d 101 29 [l0, l1, l2] (.ref a :: st) (yemb t) Q ↔ G d 101 30 [l0, l1, l2] (.ref 7 :: st) (yemb t) Q := gs_getf (c := 7) (j := 2) (q := .c 7) f_101_29 ho rfl
theorem f_101_30 : ft 101 30 = some (85, .iload_n 1, []) := rfl
theorem s_101_30 {d : Nat} {σ : xS} {st : List Value} {Q : xR → xS → Prop} {l0 l2 : Option Value} {x : Int32} : G d 101 30 [l0, some (.int x), l2] st σ Q ↔ G d 101 31 [l0, some (.int x), l2] (.int x :: st) σ Q := gs_go f_101_30 rfl
theorem f_101_31 : ft 101 31 = some (86, .invokevirtual 214, [43, 2, 0, 1637]) := rfl
theorem s_101_31 {d : Nat} {t : yT} {st : List Value} {Q : xR → xS → Prop} {l0 l1 l2 : Option Value} {a0 : Nat} {a1 : Int32} (ho : yisO 4 a0) : G (d + 1) 101 31 [l0, l1, l2] (.int a1 :: .ref a0 :: st) (yemb t) Q ↔ xcat st ≤ 8 ∧ Cl d 43 [.ref a0, .int a1] (yemb t) (Gk (d + 1) 101 31 [l0, l1, l2] st Q) := gs_call f_101_31 ((xinv_call (i := 31) (n := 1637) (ls := [l0, l1, l2]) (kind := 0) (σ := yemb t) (by decide)).trans (xcall_vi [.int a1, .ref a0] rfl rfl (show (2 : Nat) ≤ 2 by decide) rfl ho))
theorem f_101_32 : ft 101 32 = some (89, .ireturn, []) := rfl
theorem s_101_32 {d : Nat} {σ : xS} {ls : xL} {Q : xR → xS → Prop} {x : Int32} : G d 101 32 ls [.int x] σ Q ↔ Q (.inl (some (.int x))) σ := gs_reti f_101_32 rfl
theorem f_101_33 : ft 101 33 = some (90, .new 86, [1, 0, 594, 88]) := rfl
theorem s_101_33 {d : Nat} {σ : xS} {ls : xL} {st : List Value} {Q : xR → xS → Prop} : G d 101 33 ls st σ Q ↔ (xcat st ≤ 8 ∧ σ.2.1.1 < 900000) ∧ Q (.inr 0) (xbump (.inr 0) σ) := gs_thr (e := 0) f_101_33
theorem f_101_34 : ft 101 34 = some (93, .dup, []) := rfl
theorem s_101_34 {d : Nat} {σ : xS} {st : List Value} {Q : xR → xS → Prop} {l0 l1 l2 : Option Value} {x : Nat} : G d 101 34 [l0, l1, l2] (.ref x :: st) σ Q ↔ G d 101 35 [l0, l1, l2] (.ref x :: .ref x :: st) σ Q := gs_go f_101_34 rfl
theorem s_101_34i {d : Nat} {σ : xS} {st : List Value} {Q : xR → xS → Prop} {l0 l1 l2 : Option Value} {x : Int32} : G d 101 34 [l0, l1, l2] (.int x :: st) σ Q ↔ G d 101 35 [l0, l1, l2] (.int x :: .int x :: st) σ Q := gs_go f_101_34 rfl
theorem f_101_35 : ft 101 35 = some (94, .invokespecial 88, [0, 1, 23, 636]) := rfl
theorem f_101_36 : ft 101 36 = some (97, .athrow, []) := rfl
theorem f_102_0 : ft 102 0 = some (0, .aload_n 0, []) := rfl
theorem s_102_0 {d : Nat} {σ : xS} {st : List Value} {Q : xR → xS → Prop} {l1 : Option Value} {x : Nat} : G d 102 0 [some (.ref x), l1] st σ Q ↔ G d 102 1 [some (.ref x), l1] (.ref x :: st) σ Q := gs_go f_102_0 rfl
theorem f_102_1 : ft 102 1 = some (1, .getfield 26, [7, 2, 0, 318]) := rfl
theorem s_102_1 {d : Nat} {t : yT} {st : List Value} {Q : xR → xS → Prop} {l0 l1 : Option Value} {a : Nat} (ho : yisO 7 a) : G d 102 1 [l0, l1] (.ref a :: st) (yemb t) Q ↔ G d 102 2 [l0, l1] (.ref 7 :: st) (yemb t) Q := gs_getf (c := 7) (j := 2) (q := .c 7) f_102_1 ho rfl
theorem f_102_2 : ft 102 2 = some (4, .iload_n 1, []) := rfl
theorem s_102_2 {d : Nat} {σ : xS} {st : List Value} {Q : xR → xS → Prop} {l0 : Option Value} {x : Int32} : G d 102 2 [l0, some (.int x)] st σ Q ↔ G d 102 3 [l0, some (.int x)] (.int x :: st) σ Q := gs_go f_102_2 rfl
theorem f_102_3 : ft 102 3 = some (5, .invokevirtual 166, [32, 2, 0, 1072]) := rfl
theorem s_102_3 {d : Nat} {t : yT} {st : List Value} {Q : xR → xS → Prop} {l0 l1 : Option Value} {a0 : Nat} {a1 : Int32} (ho : yisO 4 a0) : G (d + 1) 102 3 [l0, l1] (.int a1 :: .ref a0 :: st) (yemb t) Q ↔ xcat st ≤ 8 ∧ Cl d 32 [.ref a0, .int a1] (yemb t) (Gk (d + 1) 102 3 [l0, l1] st Q) := gs_call f_102_3 ((xinv_call (i := 3) (n := 1072) (ls := [l0, l1]) (kind := 0) (σ := yemb t) (by decide)).trans (xcall_vi [.int a1, .ref a0] rfl rfl (show (2 : Nat) ≤ 2 by decide) rfl ho))
theorem f_102_4 : ft 102 4 = some (8, .ifCond .ne 11, [9]) := rfl
theorem s_102_4 {d : Nat} {σ : xS} {st : List Value} {Q : xR → xS → Prop} {l0 l1 : Option Value} {x : Int32} : G d 102 4 [l0, l1] (.int x :: st) σ Q ↔ if x ≠ 0 then G d 102 9 [l0, l1] st σ Q else G d 102 5 [l0, l1] st σ Q := gs_if f_102_4 rfl
theorem f_102_5 : ft 102 5 = some (11, .new 170, [1, 1, 1073, 172]) := rfl
theorem s_102_5 {d : Nat} {σ : xS} {ls : xL} {st : List Value} {Q : xR → xS → Prop} : G d 102 5 ls st σ Q ↔ (xcat st ≤ 8 ∧ σ.2.1.1 < 900000) ∧ Q (.inr 1) (xbump (.inr 1) σ) := gs_thr (e := 1) f_102_5
theorem f_102_6 : ft 102 6 = some (14, .dup, []) := rfl
theorem s_102_6 {d : Nat} {σ : xS} {st : List Value} {Q : xR → xS → Prop} {l0 l1 : Option Value} {x : Nat} : G d 102 6 [l0, l1] (.ref x :: st) σ Q ↔ G d 102 7 [l0, l1] (.ref x :: .ref x :: st) σ Q := gs_go f_102_6 rfl
theorem s_102_6i {d : Nat} {σ : xS} {st : List Value} {Q : xR → xS → Prop} {l0 l1 : Option Value} {x : Int32} : G d 102 6 [l0, l1] (.int x :: st) σ Q ↔ G d 102 7 [l0, l1] (.int x :: .int x :: st) σ Q := gs_go f_102_6 rfl
theorem f_102_7 : ft 102 7 = some (15, .invokespecial 172, [0, 1, 23, 1082]) := rfl
theorem f_102_8 : ft 102 8 = some (18, .athrow, []) := rfl
theorem f_102_9 : ft 102 9 = some (19, .aload_n 0, []) := rfl
theorem s_102_9 {d : Nat} {σ : xS} {st : List Value} {Q : xR → xS → Prop} {l1 : Option Value} {x : Nat} : G d 102 9 [some (.ref x), l1] st σ Q ↔ G d 102 10 [some (.ref x), l1] (.ref x :: st) σ Q := gs_go f_102_9 rfl
theorem f_102_10 : ft 102 10 = some (20, .getfield 26, [7, 2, 0, 318]) := rfl
theorem s_102_10 {d : Nat} {t : yT} {st : List Value} {Q : xR → xS → Prop} {l0 l1 : Option Value} {a : Nat} (ho : yisO 7 a) : G d 102 10 [l0, l1] (.ref a :: st) (yemb t) Q ↔ G d 102 11 [l0, l1] (.ref 7 :: st) (yemb t) Q := gs_getf (c := 7) (j := 2) (q := .c 7) f_102_10 ho rfl
theorem f_102_11 : ft 102 11 = some (23, .iload_n 1, []) := rfl
theorem s_102_11 {d : Nat} {σ : xS} {st : List Value} {Q : xR → xS → Prop} {l0 : Option Value} {x : Int32} : G d 102 11 [l0, some (.int x)] st σ Q ↔ G d 102 12 [l0, some (.int x)] (.int x :: st) σ Q := gs_go f_102_11 rfl
theorem f_102_12 : ft 102 12 = some (24, .invokevirtual 217, [62, 2, 0, 1088]) := rfl
theorem s_102_12 {d : Nat} {t : yT} {st : List Value} {Q : xR → xS → Prop} {l0 l1 : Option Value} {a0 : Nat} {a1 : Int32} (ho : yisO 4 a0) : G (d + 1) 102 12 [l0, l1] (.int a1 :: .ref a0 :: st) (yemb t) Q ↔ xcat st ≤ 8 ∧ Cl d 62 [.ref a0, .int a1] (yemb t) (Gk (d + 1) 102 12 [l0, l1] st Q) := gs_call f_102_12 ((xinv_call (i := 12) (n := 1088) (ls := [l0, l1]) (kind := 0) (σ := yemb t) (by decide)).trans (xcall_vi [.int a1, .ref a0] rfl rfl (show (2 : Nat) ≤ 3 by decide) rfl ho))
theorem f_102_13 : ft 102 13 = some (27, .ireturn, []) := rfl
theorem s_102_13 {d : Nat} {σ : xS} {ls : xL} {Q : xR → xS → Prop} {x : Int32} : G d 102 13 ls [.int x] σ Q ↔ Q (.inl (some (.int x))) σ := gs_reti f_102_13 rfl
theorem f_103_0 : ft 103 0 = some (0, .aload_n 0, []) := rfl
theorem s_103_0 {d : Nat} {σ : xS} {st : List Value} {Q : xR → xS → Prop} {l1 : Option Value} {x : Nat} : G d 103 0 [some (.ref x), l1] st σ Q ↔ G d 103 1 [some (.ref x), l1] (.ref x :: st) σ Q := gs_go f_103_0 rfl
theorem f_103_1 : ft 103 1 = some (1, .getfield 26, [7, 2, 0, 318]) := rfl
theorem s_103_1 {d : Nat} {t : yT} {st : List Value} {Q : xR → xS → Prop} {l0 l1 : Option Value} {a : Nat} (ho : yisO 7 a) : G d 103 1 [l0, l1] (.ref a :: st) (yemb t) Q ↔ G d 103 2 [l0, l1] (.ref 7 :: st) (yemb t) Q := gs_getf (c := 7) (j := 2) (q := .c 7) f_103_1 ho rfl
theorem f_103_2 : ft 103 2 = some (4, .iload_n 1, []) := rfl
theorem s_103_2 {d : Nat} {σ : xS} {st : List Value} {Q : xR → xS → Prop} {l0 : Option Value} {x : Int32} : G d 103 2 [l0, some (.int x)] st σ Q ↔ G d 103 3 [l0, some (.int x)] (.int x :: st) σ Q := gs_go f_103_2 rfl
theorem f_103_3 : ft 103 3 = some (5, .invokevirtual 166, [32, 2, 0, 1072]) := rfl
theorem s_103_3 {d : Nat} {t : yT} {st : List Value} {Q : xR → xS → Prop} {l0 l1 : Option Value} {a0 : Nat} {a1 : Int32} (ho : yisO 4 a0) : G (d + 1) 103 3 [l0, l1] (.int a1 :: .ref a0 :: st) (yemb t) Q ↔ xcat st ≤ 8 ∧ Cl d 32 [.ref a0, .int a1] (yemb t) (Gk (d + 1) 103 3 [l0, l1] st Q) := gs_call f_103_3 ((xinv_call (i := 3) (n := 1072) (ls := [l0, l1]) (kind := 0) (σ := yemb t) (by decide)).trans (xcall_vi [.int a1, .ref a0] rfl rfl (show (2 : Nat) ≤ 2 by decide) rfl ho))
theorem f_103_4 : ft 103 4 = some (8, .ifCond .ne 11, [9]) := rfl
theorem s_103_4 {d : Nat} {σ : xS} {st : List Value} {Q : xR → xS → Prop} {l0 l1 : Option Value} {x : Int32} : G d 103 4 [l0, l1] (.int x :: st) σ Q ↔ if x ≠ 0 then G d 103 9 [l0, l1] st σ Q else G d 103 5 [l0, l1] st σ Q := gs_if f_103_4 rfl
theorem f_103_5 : ft 103 5 = some (11, .new 170, [1, 1, 1073, 172]) := rfl
theorem s_103_5 {d : Nat} {σ : xS} {ls : xL} {st : List Value} {Q : xR → xS → Prop} : G d 103 5 ls st σ Q ↔ (xcat st ≤ 8 ∧ σ.2.1.1 < 900000) ∧ Q (.inr 1) (xbump (.inr 1) σ) := gs_thr (e := 1) f_103_5
theorem f_103_6 : ft 103 6 = some (14, .dup, []) := rfl
theorem s_103_6 {d : Nat} {σ : xS} {st : List Value} {Q : xR → xS → Prop} {l0 l1 : Option Value} {x : Nat} : G d 103 6 [l0, l1] (.ref x :: st) σ Q ↔ G d 103 7 [l0, l1] (.ref x :: .ref x :: st) σ Q := gs_go f_103_6 rfl
theorem s_103_6i {d : Nat} {σ : xS} {st : List Value} {Q : xR → xS → Prop} {l0 l1 : Option Value} {x : Int32} : G d 103 6 [l0, l1] (.int x :: st) σ Q ↔ G d 103 7 [l0, l1] (.int x :: .int x :: st) σ Q := gs_go f_103_6 rfl
theorem f_103_7 : ft 103 7 = some (15, .invokespecial 172, [0, 1, 23, 1082]) := rfl
theorem f_103_8 : ft 103 8 = some (18, .athrow, []) := rfl
theorem f_103_9 : ft 103 9 = some (19, .aload_n 0, []) := rfl
theorem s_103_9 {d : Nat} {σ : xS} {st : List Value} {Q : xR → xS → Prop} {l1 : Option Value} {x : Nat} : G d 103 9 [some (.ref x), l1] st σ Q ↔ G d 103 10 [some (.ref x), l1] (.ref x :: st) σ Q := gs_go f_103_9 rfl
theorem f_103_10 : ft 103 10 = some (20, .getfield 26, [7, 2, 0, 318]) := rfl
theorem s_103_10 {d : Nat} {t : yT} {st : List Value} {Q : xR → xS → Prop} {l0 l1 : Option Value} {a : Nat} (ho : yisO 7 a) : G d 103 10 [l0, l1] (.ref a :: st) (yemb t) Q ↔ G d 103 11 [l0, l1] (.ref 7 :: st) (yemb t) Q := gs_getf (c := 7) (j := 2) (q := .c 7) f_103_10 ho rfl
theorem f_103_11 : ft 103 11 = some (23, .aload_n 0, []) := rfl
theorem s_103_11 {d : Nat} {σ : xS} {st : List Value} {Q : xR → xS → Prop} {l1 : Option Value} {x : Nat} : G d 103 11 [some (.ref x), l1] st σ Q ↔ G d 103 12 [some (.ref x), l1] (.ref x :: st) σ Q := gs_go f_103_11 rfl
theorem f_103_12 : ft 103 12 = some (24, .getfield 26, [7, 2, 0, 318]) := rfl
theorem s_103_12 {d : Nat} {t : yT} {st : List Value} {Q : xR → xS → Prop} {l0 l1 : Option Value} {a : Nat} (ho : yisO 7 a) : G d 103 12 [l0, l1] (.ref a :: st) (yemb t) Q ↔ G d 103 13 [l0, l1] (.ref 7 :: st) (yemb t) Q := gs_getf (c := 7) (j := 2) (q := .c 7) f_103_12 ho rfl
theorem f_103_13 : ft 103 13 = some (27, .getfield 138, [4, 15, 1, 177]) := rfl
theorem s_103_13 {d : Nat} {t : yT} {st : List Value} {Q : xR → xS → Prop} {l0 l1 : Option Value} {a : Nat} (ho : yisO 4 a) : G d 103 13 [l0, l1] (.ref a :: st) (yemb t) Q ↔ G d 103 14 [l0, l1] (.long (t.L a 15) :: st) (yemb t) Q := gs_getf (c := 4) (j := 15) (q := .l) f_103_13 ho rfl
theorem f_103_14 : ft 103 14 = some (30, .invokevirtual 220, [55, 2, 0, 1112]) := rfl
theorem s_103_14 {d : Nat} {t : yT} {st : List Value} {Q : xR → xS → Prop} {l0 l1 : Option Value} {a0 : Nat} {a1 : Int64} (ho : yisO 4 a0) : G (d + 1) 103 14 [l0, l1] (.long a1 :: .ref a0 :: st) (yemb t) Q ↔ xcat st ≤ 8 ∧ Cl d 55 [.ref a0, .long a1] (yemb t) (Gk (d + 1) 103 14 [l0, l1] st Q) := gs_call f_103_14 ((xinv_call (i := 14) (n := 1112) (ls := [l0, l1]) (kind := 0) (σ := yemb t) (by decide)).trans (xcall_vi [.long a1, .ref a0] rfl rfl (show (3 : Nat) ≤ 5 by decide) rfl ho))
theorem f_103_15 : ft 103 15 = some (33, .aload_n 0, []) := rfl
theorem s_103_15 {d : Nat} {σ : xS} {st : List Value} {Q : xR → xS → Prop} {l1 : Option Value} {x : Nat} : G d 103 15 [some (.ref x), l1] st σ Q ↔ G d 103 16 [some (.ref x), l1] (.ref x :: st) σ Q := gs_go f_103_15 rfl
theorem f_103_16 : ft 103 16 = some (34, .getfield 26, [7, 2, 0, 318]) := rfl
theorem s_103_16 {d : Nat} {t : yT} {st : List Value} {Q : xR → xS → Prop} {l0 l1 : Option Value} {a : Nat} (ho : yisO 7 a) : G d 103 16 [l0, l1] (.ref a :: st) (yemb t) Q ↔ G d 103 17 [l0, l1] (.ref 7 :: st) (yemb t) Q := gs_getf (c := 7) (j := 2) (q := .c 7) f_103_16 ho rfl
theorem f_103_17 : ft 103 17 = some (37, .getfield 173, [4, 2, 1, 147]) := rfl
theorem s_103_17 {d : Nat} {t : yT} {st : List Value} {Q : xR → xS → Prop} {l0 l1 : Option Value} {a : Nat} (ho : yisO 4 a) : G d 103 17 [l0, l1] (.ref a :: st) (yemb t) Q ↔ G d 103 18 [l0, l1] (.ref (a + 3) :: st) (yemb t) Q := gs_getf (c := 4) (j := 2) (q := .c (a + 3)) f_103_17 ho rfl
theorem f_103_18 : ft 103 18 = some (40, .iload_n 1, []) := rfl
theorem s_103_18 {d : Nat} {σ : xS} {st : List Value} {Q : xR → xS → Prop} {l0 : Option Value} {x : Int32} : G d 103 18 [l0, some (.int x)] st σ Q ↔ G d 103 19 [l0, some (.int x)] (.int x :: st) σ Q := gs_go f_103_18 rfl
theorem f_103_19 : ft 103 19 = some (41, .iaload, []) := rfl
theorem s_103_19 {d : Nat} {t : yT} {st : List Value} {Q : xR → xS → Prop} {l0 l1 : Option Value} {a : Nat} {x : Int32} (ha : yA 0 a) : G d 103 19 [l0, l1] (.int x :: .ref a :: st) (yemb t) Q ↔ yix x (yn a) ∧ G d 103 20 [l0, l1] (.int (t.A a x.toNatClampNeg) :: st) (yemb t) Q := gs_iald f_103_19 ha
theorem f_103_20 : ft 103 20 = some (42, .iconst 1, []) := rfl
theorem s_103_20 {d : Nat} {σ : xS} {st : List Value} {Q : xR → xS → Prop} {l0 l1 : Option Value} : G d 103 20 [l0, l1] st σ Q ↔ G d 103 21 [l0, l1] (.int (1) :: st) σ Q := gs_go f_103_20 rfl
theorem f_103_21 : ft 103 21 = some (43, .if_icmp .ne 7, [24]) := rfl
theorem s_103_21 {d : Nat} {σ : xS} {st : List Value} {Q : xR → xS → Prop} {l0 l1 : Option Value} {x y : Int32} : G d 103 21 [l0, l1] (.int y :: .int x :: st) σ Q ↔ if x ≠ y then G d 103 24 [l0, l1] st σ Q else G d 103 22 [l0, l1] st σ Q := gs_if f_103_21 rfl
theorem f_103_22 : ft 103 22 = some (46, .iconst (-1), []) := rfl
theorem s_103_22 {d : Nat} {σ : xS} {st : List Value} {Q : xR → xS → Prop} {l0 l1 : Option Value} : G d 103 22 [l0, l1] st σ Q ↔ G d 103 23 [l0, l1] (.int (-1) :: st) σ Q := gs_go f_103_22 rfl
theorem f_103_23 : ft 103 23 = some (47, .goto 12, [29]) := rfl
theorem s_103_23 {d : Nat} {σ : xS} {st : List Value} {Q : xR → xS → Prop} {l0 l1 : Option Value} : G d 103 23 [l0, l1] st σ Q ↔ G d 103 29 [l0, l1] st σ Q := gs_go f_103_23 rfl
theorem f_103_24 : ft 103 24 = some (50, .aload_n 0, []) := rfl
theorem s_103_24 {d : Nat} {σ : xS} {st : List Value} {Q : xR → xS → Prop} {l1 : Option Value} {x : Nat} : G d 103 24 [some (.ref x), l1] st σ Q ↔ G d 103 25 [some (.ref x), l1] (.ref x :: st) σ Q := gs_go f_103_24 rfl
theorem f_103_25 : ft 103 25 = some (51, .getfield 26, [7, 2, 0, 318]) := rfl
theorem s_103_25 {d : Nat} {t : yT} {st : List Value} {Q : xR → xS → Prop} {l0 l1 : Option Value} {a : Nat} (ho : yisO 7 a) : G d 103 25 [l0, l1] (.ref a :: st) (yemb t) Q ↔ G d 103 26 [l0, l1] (.ref 7 :: st) (yemb t) Q := gs_getf (c := 7) (j := 2) (q := .c 7) f_103_25 ho rfl
theorem f_103_26 : ft 103 26 = some (54, .getfield 224, [4, 17, 1, 181]) := rfl
theorem s_103_26 {d : Nat} {t : yT} {st : List Value} {Q : xR → xS → Prop} {l0 l1 : Option Value} {a : Nat} (ho : yisO 4 a) : G d 103 26 [l0, l1] (.ref a :: st) (yemb t) Q ↔ G d 103 27 [l0, l1] (.ref (a + 10) :: st) (yemb t) Q := gs_getf (c := 4) (j := 17) (q := .c (a + 10)) f_103_26 ho rfl
theorem f_103_27 : ft 103 27 = some (57, .iload_n 1, []) := rfl
theorem s_103_27 {d : Nat} {σ : xS} {st : List Value} {Q : xR → xS → Prop} {l0 : Option Value} {x : Int32} : G d 103 27 [l0, some (.int x)] st σ Q ↔ G d 103 28 [l0, some (.int x)] (.int x :: st) σ Q := gs_go f_103_27 rfl
theorem f_103_28 : ft 103 28 = some (58, .iaload, []) := rfl
theorem s_103_28 {d : Nat} {t : yT} {st : List Value} {Q : xR → xS → Prop} {l0 l1 : Option Value} {a : Nat} {x : Int32} (ha : yA 0 a) : G d 103 28 [l0, l1] (.int x :: .ref a :: st) (yemb t) Q ↔ yix x (yn a) ∧ G d 103 29 [l0, l1] (.int (t.A a x.toNatClampNeg) :: st) (yemb t) Q := gs_iald f_103_28 ha
theorem f_103_29 : ft 103 29 = some (59, .ireturn, []) := rfl
theorem s_103_29 {d : Nat} {σ : xS} {ls : xL} {Q : xR → xS → Prop} {x : Int32} : G d 103 29 ls [.int x] σ Q ↔ Q (.inl (some (.int x))) σ := gs_reti f_103_29 rfl
theorem f_104_0 : ft 104 0 = some (0, .iload_n 1, []) := rfl
theorem s_104_0 {d : Nat} {σ : xS} {st : List Value} {Q : xR → xS → Prop} {l0 l2 : Option Value} {x : Int32} : G d 104 0 [l0, some (.int x), l2] st σ Q ↔ G d 104 1 [l0, some (.int x), l2] (.int x :: st) σ Q := gs_go f_104_0 rfl
theorem f_104_1 : ft 104 1 = some (1, .iconst 1, []) := rfl
theorem s_104_1 {d : Nat} {σ : xS} {st : List Value} {Q : xR → xS → Prop} {l0 l1 l2 : Option Value} : G d 104 1 [l0, l1, l2] st σ Q ↔ G d 104 2 [l0, l1, l2] (.int (1) :: st) σ Q := gs_go f_104_1 rfl
theorem f_104_2 : ft 104 2 = some (2, .if_icmp .lt 9, [6]) := rfl
theorem s_104_2 {d : Nat} {σ : xS} {st : List Value} {Q : xR → xS → Prop} {l0 l1 l2 : Option Value} {x y : Int32} : G d 104 2 [l0, l1, l2] (.int y :: .int x :: st) σ Q ↔ if x < y then G d 104 6 [l0, l1, l2] st σ Q else G d 104 3 [l0, l1, l2] st σ Q := gs_if f_104_2 rfl
theorem f_104_3 : ft 104 3 = some (5, .iload_n 1, []) := rfl
theorem s_104_3 {d : Nat} {σ : xS} {st : List Value} {Q : xR → xS → Prop} {l0 l2 : Option Value} {x : Int32} : G d 104 3 [l0, some (.int x), l2] st σ Q ↔ G d 104 4 [l0, some (.int x), l2] (.int x :: st) σ Q := gs_go f_104_3 rfl
theorem f_104_4 : ft 104 4 = some (6, .bipush 20, []) := rfl
theorem s_104_4 {d : Nat} {σ : xS} {st : List Value} {Q : xR → xS → Prop} {l0 l1 l2 : Option Value} : G d 104 4 [l0, l1, l2] st σ Q ↔ G d 104 5 [l0, l1, l2] (.int (20) :: st) σ Q := gs_go f_104_4 rfl
theorem f_104_5 : ft 104 5 = some (8, .if_icmp .le 11, [10]) := rfl
theorem s_104_5 {d : Nat} {σ : xS} {st : List Value} {Q : xR → xS → Prop} {l0 l1 l2 : Option Value} {x y : Int32} : G d 104 5 [l0, l1, l2] (.int y :: .int x :: st) σ Q ↔ if x ≤ y then G d 104 10 [l0, l1, l2] st σ Q else G d 104 6 [l0, l1, l2] st σ Q := gs_if f_104_5 rfl
theorem f_104_6 : ft 104 6 = some (11, .new 86, [1, 0, 594, 88]) := rfl
theorem s_104_6 {d : Nat} {σ : xS} {ls : xL} {st : List Value} {Q : xR → xS → Prop} : G d 104 6 ls st σ Q ↔ (xcat st ≤ 8 ∧ σ.2.1.1 < 900000) ∧ Q (.inr 0) (xbump (.inr 0) σ) := gs_thr (e := 0) f_104_6
theorem f_104_7 : ft 104 7 = some (14, .dup, []) := rfl
theorem s_104_7 {d : Nat} {σ : xS} {st : List Value} {Q : xR → xS → Prop} {l0 l1 l2 : Option Value} {x : Nat} : G d 104 7 [l0, l1, l2] (.ref x :: st) σ Q ↔ G d 104 8 [l0, l1, l2] (.ref x :: .ref x :: st) σ Q := gs_go f_104_7 rfl
theorem s_104_7i {d : Nat} {σ : xS} {st : List Value} {Q : xR → xS → Prop} {l0 l1 l2 : Option Value} {x : Int32} : G d 104 7 [l0, l1, l2] (.int x :: st) σ Q ↔ G d 104 8 [l0, l1, l2] (.int x :: .int x :: st) σ Q := gs_go f_104_7 rfl
theorem f_104_8 : ft 104 8 = some (15, .invokespecial 88, [0, 1, 23, 636]) := rfl
theorem f_104_9 : ft 104 9 = some (18, .athrow, []) := rfl
theorem f_104_10 : ft 104 10 = some (19, .aload_n 0, []) := rfl
theorem s_104_10 {d : Nat} {σ : xS} {st : List Value} {Q : xR → xS → Prop} {l1 l2 : Option Value} {x : Nat} : G d 104 10 [some (.ref x), l1, l2] st σ Q ↔ G d 104 11 [some (.ref x), l1, l2] (.ref x :: st) σ Q := gs_go f_104_10 rfl
theorem f_104_11 : ft 104 11 = some (20, .getfield 30, [7, 3, 0, 319]) := rfl
theorem s_104_11 {d : Nat} {t : yT} {st : List Value} {Q : xR → xS → Prop} {l0 l1 l2 : Option Value} {a : Nat} (ho : yisO 7 a) : G d 104 11 [l0, l1, l2] (.ref a :: st) (yemb t) Q ↔ G d 104 12 [l0, l1, l2] (.ref 19 :: st) (yemb t) Q := gs_getf (c := 7) (j := 3) (q := .c 19) f_104_11 ho rfl
theorem f_104_12 : ft 104 12 = some (23, .aload_n 0, []) := rfl
theorem s_104_12 {d : Nat} {σ : xS} {st : List Value} {Q : xR → xS → Prop} {l1 l2 : Option Value} {x : Nat} : G d 104 12 [some (.ref x), l1, l2] st σ Q ↔ G d 104 13 [some (.ref x), l1, l2] (.ref x :: st) σ Q := gs_go f_104_12 rfl
theorem f_104_13 : ft 104 13 = some (24, .getfield 26, [7, 2, 0, 318]) := rfl
theorem s_104_13 {d : Nat} {t : yT} {st : List Value} {Q : xR → xS → Prop} {l0 l1 l2 : Option Value} {a : Nat} (ho : yisO 7 a) : G d 104 13 [l0, l1, l2] (.ref a :: st) (yemb t) Q ↔ G d 104 14 [l0, l1, l2] (.ref 7 :: st) (yemb t) Q := gs_getf (c := 7) (j := 2) (q := .c 7) f_104_13 ho rfl
theorem f_104_14 : ft 104 14 = some (27, .invokevirtual 109, [31, 2, 0, 896]) := rfl
theorem s_104_14 {d : Nat} {t : yT} {st : List Value} {Q : xR → xS → Prop} {l0 l1 l2 : Option Value} {a0 : Nat} {a1 : Nat} (ho : yisO 4 a0) : G (d + 1) 104 14 [l0, l1, l2] (.ref a1 :: .ref a0 :: st) (yemb t) Q ↔ xcat st ≤ 8 ∧ Cl d 31 [.ref a0, .ref a1] (yemb t) (Gk (d + 1) 104 14 [l0, l1, l2] st Q) := gs_call f_104_14 ((xinv_call (i := 14) (n := 896) (ls := [l0, l1, l2]) (kind := 0) (σ := yemb t) (by decide)).trans (xcall_vi [.ref a1, .ref a0] rfl rfl (show (2 : Nat) ≤ 2 by decide) rfl ho))
theorem f_104_15 : ft 104 15 = some (30, .aload_n 0, []) := rfl
theorem s_104_15 {d : Nat} {σ : xS} {st : List Value} {Q : xR → xS → Prop} {l1 l2 : Option Value} {x : Nat} : G d 104 15 [some (.ref x), l1, l2] st σ Q ↔ G d 104 16 [some (.ref x), l1, l2] (.ref x :: st) σ Q := gs_go f_104_15 rfl
theorem f_104_16 : ft 104 16 = some (31, .getfield 30, [7, 3, 0, 319]) := rfl
theorem s_104_16 {d : Nat} {t : yT} {st : List Value} {Q : xR → xS → Prop} {l0 l1 l2 : Option Value} {a : Nat} (ho : yisO 7 a) : G d 104 16 [l0, l1, l2] (.ref a :: st) (yemb t) Q ↔ G d 104 17 [l0, l1, l2] (.ref 19 :: st) (yemb t) Q := gs_getf (c := 7) (j := 3) (q := .c 19) f_104_16 ho rfl
theorem f_104_17 : ft 104 17 = some (34, .aload_n 0, []) := rfl
theorem s_104_17 {d : Nat} {σ : xS} {st : List Value} {Q : xR → xS → Prop} {l1 l2 : Option Value} {x : Nat} : G d 104 17 [some (.ref x), l1, l2] st σ Q ↔ G d 104 18 [some (.ref x), l1, l2] (.ref x :: st) σ Q := gs_go f_104_17 rfl
theorem f_104_18 : ft 104 18 = some (35, .getfield 19, [7, 1, 0, 317]) := rfl
theorem s_104_18 {d : Nat} {t : yT} {st : List Value} {Q : xR → xS → Prop} {l0 l1 l2 : Option Value} {a : Nat} (ho : yisO 7 a) : G d 104 18 [l0, l1, l2] (.ref a :: st) (yemb t) Q ↔ G d 104 19 [l0, l1, l2] (.ref 3 :: st) (yemb t) Q := gs_getf (c := 7) (j := 1) (q := .c 3) f_104_18 ho rfl
theorem f_104_19 : ft 104 19 = some (38, .invokevirtual 227, [53, 2, 0, 1120]) := rfl
theorem s_104_19 {d : Nat} {t : yT} {st : List Value} {Q : xR → xS → Prop} {l0 l1 l2 : Option Value} {a0 : Nat} {a1 : Nat} (ho : yisO 4 a0) : G (d + 1) 104 19 [l0, l1, l2] (.ref a1 :: .ref a0 :: st) (yemb t) Q ↔ xcat st ≤ 8 ∧ Cl d 53 [.ref a0, .ref a1] (yemb t) (Gk (d + 1) 104 19 [l0, l1, l2] st Q) := gs_call f_104_19 ((xinv_call (i := 19) (n := 1120) (ls := [l0, l1, l2]) (kind := 0) (σ := yemb t) (by decide)).trans (xcall_vi [.ref a1, .ref a0] rfl rfl (show (2 : Nat) ≤ 3 by decide) rfl ho))
theorem f_104_20 : ft 104 20 = some (41, .iconst 0, []) := rfl
theorem s_104_20 {d : Nat} {σ : xS} {st : List Value} {Q : xR → xS → Prop} {l0 l1 l2 : Option Value} : G d 104 20 [l0, l1, l2] st σ Q ↔ G d 104 21 [l0, l1, l2] (.int (0) :: st) σ Q := gs_go f_104_20 rfl
theorem f_104_21 : ft 104 21 = some (42, .istore_n 2, []) := rfl
theorem s_104_21 {d : Nat} {σ : xS} {st : List Value} {Q : xR → xS → Prop} {l0 l1 l2 : Option Value} {x : Int32} : G d 104 21 [l0, l1, l2] (.int x :: st) σ Q ↔ G d 104 22 [l0, ykl l1, some (.int x)] st σ Q := by
  cases l1 with
  | none => exact gs_go f_104_21 rfl
  | some v => cases v <;> exact gs_go f_104_21 rfl
theorem f_104_22 : ft 104 22 = some (43, .iload_n 2, []) := rfl
theorem s_104_22 {d : Nat} {σ : xS} {st : List Value} {Q : xR → xS → Prop} {l0 l1 : Option Value} {x : Int32} : G d 104 22 [l0, l1, some (.int x)] st σ Q ↔ G d 104 23 [l0, l1, some (.int x)] (.int x :: st) σ Q := gs_go f_104_22 rfl
theorem f_104_23 : ft 104 23 = some (44, .iload_n 1, []) := rfl
theorem s_104_23 {d : Nat} {σ : xS} {st : List Value} {Q : xR → xS → Prop} {l0 l2 : Option Value} {x : Int32} : G d 104 23 [l0, some (.int x), l2] st σ Q ↔ G d 104 24 [l0, some (.int x), l2] (.int x :: st) σ Q := gs_go f_104_23 rfl
theorem f_104_24 : ft 104 24 = some (45, .if_icmp .ge 16, [30]) := rfl
theorem s_104_24 {d : Nat} {σ : xS} {st : List Value} {Q : xR → xS → Prop} {l0 l1 l2 : Option Value} {x y : Int32} : G d 104 24 [l0, l1, l2] (.int y :: .int x :: st) σ Q ↔ if y ≤ x then G d 104 30 [l0, l1, l2] st σ Q else G d 104 25 [l0, l1, l2] st σ Q := gs_if f_104_24 rfl
theorem f_104_25 : ft 104 25 = some (48, .aload_n 0, []) := rfl
theorem s_104_25 {d : Nat} {σ : xS} {st : List Value} {Q : xR → xS → Prop} {l1 l2 : Option Value} {x : Nat} : G d 104 25 [some (.ref x), l1, l2] st σ Q ↔ G d 104 26 [some (.ref x), l1, l2] (.ref x :: st) σ Q := gs_go f_104_25 rfl
theorem f_104_26 : ft 104 26 = some (49, .getfield 30, [7, 3, 0, 319]) := rfl
theorem s_104_26 {d : Nat} {t : yT} {st : List Value} {Q : xR → xS → Prop} {l0 l1 l2 : Option Value} {a : Nat} (ho : yisO 7 a) : G d 104 26 [l0, l1, l2] (.ref a :: st) (yemb t) Q ↔ G d 104 27 [l0, l1, l2] (.ref 19 :: st) (yemb t) Q := gs_getf (c := 7) (j := 3) (q := .c 19) f_104_26 ho rfl
theorem f_104_27 : ft 104 27 = some (52, .invokevirtual 231, [54, 1, 0, 1121]) := rfl
theorem s_104_27 {d : Nat} {t : yT} {st : List Value} {Q : xR → xS → Prop} {l0 l1 l2 : Option Value} {a0 : Nat} (ho : yisO 4 a0) : G (d + 1) 104 27 [l0, l1, l2] (.ref a0 :: st) (yemb t) Q ↔ xcat st ≤ 8 ∧ Cl d 54 [.ref a0] (yemb t) (Gk (d + 1) 104 27 [l0, l1, l2] st Q) := gs_call f_104_27 ((xinv_call (i := 27) (n := 1121) (ls := [l0, l1, l2]) (kind := 0) (σ := yemb t) (by decide)).trans (xcall_vi [.ref a0] rfl rfl (show (1 : Nat) ≤ 3 by decide) rfl ho))
theorem f_104_28 : ft 104 28 = some (55, .iinc 2 1, []) := rfl
theorem s_104_28 {d : Nat} {σ : xS} {st : List Value} {Q : xR → xS → Prop} {l0 l1 : Option Value} {x : Int32} : G d 104 28 [l0, l1, some (.int x)] st σ Q ↔ G d 104 29 [l0, ykl l1, some (.int (x + 1))] st σ Q := by
  cases l1 with
  | none => exact gs_go f_104_28 rfl
  | some v => cases v <;> exact gs_go f_104_28 rfl
theorem f_104_29 : ft 104 29 = some (58, .goto (-15), [22]) := rfl
theorem s_104_29 {d : Nat} {σ : xS} {st : List Value} {Q : xR → xS → Prop} {l0 l1 l2 : Option Value} : G d 104 29 [l0, l1, l2] st σ Q ↔ G d 104 22 [l0, l1, l2] st σ Q := gs_go f_104_29 rfl
theorem f_104_30 : ft 104 30 = some (61, .aload_n 0, []) := rfl
theorem s_104_30 {d : Nat} {σ : xS} {st : List Value} {Q : xR → xS → Prop} {l1 l2 : Option Value} {x : Nat} : G d 104 30 [some (.ref x), l1, l2] st σ Q ↔ G d 104 31 [some (.ref x), l1, l2] (.ref x :: st) σ Q := gs_go f_104_30 rfl
theorem f_104_31 : ft 104 31 = some (62, .getfield 30, [7, 3, 0, 319]) := rfl
theorem s_104_31 {d : Nat} {t : yT} {st : List Value} {Q : xR → xS → Prop} {l0 l1 l2 : Option Value} {a : Nat} (ho : yisO 7 a) : G d 104 31 [l0, l1, l2] (.ref a :: st) (yemb t) Q ↔ G d 104 32 [l0, l1, l2] (.ref 19 :: st) (yemb t) Q := gs_getf (c := 7) (j := 3) (q := .c 19) f_104_31 ho rfl
theorem f_104_32 : ft 104 32 = some (65, .invokevirtual 151, [59, 1, 0, 1122]) := rfl
theorem s_104_32 {d : Nat} {t : yT} {st : List Value} {Q : xR → xS → Prop} {l0 l1 l2 : Option Value} {a0 : Nat} (ho : yisO 4 a0) : G (d + 1) 104 32 [l0, l1, l2] (.ref a0 :: st) (yemb t) Q ↔ xcat st ≤ 8 ∧ Cl d 59 [.ref a0] (yemb t) (Gk (d + 1) 104 32 [l0, l1, l2] st Q) := gs_call f_104_32 ((xinv_call (i := 32) (n := 1122) (ls := [l0, l1, l2]) (kind := 0) (σ := yemb t) (by decide)).trans (xcall_vi [.ref a0] rfl rfl (show (1 : Nat) ≤ 3 by decide) rfl ho))
theorem f_104_33 : ft 104 33 = some (68, .ireturn, []) := rfl
theorem s_104_33 {d : Nat} {σ : xS} {ls : xL} {Q : xR → xS → Prop} {x : Int32} : G d 104 33 ls [.int x] σ Q ↔ Q (.inl (some (.int x))) σ := gs_reti f_104_33 rfl
theorem f_105_0 : ft 105 0 = some (0, .iload_n 1, []) := rfl
theorem s_105_0 {d : Nat} {σ : xS} {st : List Value} {Q : xR → xS → Prop} {l0 : Option Value} {x : Int32} : G d 105 0 [l0, some (.int x)] st σ Q ↔ G d 105 1 [l0, some (.int x)] (.int x :: st) σ Q := gs_go f_105_0 rfl
theorem f_105_1 : ft 105 1 = some (1, .ifCond .lt 9, [5]) := rfl
theorem s_105_1 {d : Nat} {σ : xS} {st : List Value} {Q : xR → xS → Prop} {l0 l1 : Option Value} {x : Int32} : G d 105 1 [l0, l1] (.int x :: st) σ Q ↔ if x < 0 then G d 105 5 [l0, l1] st σ Q else G d 105 2 [l0, l1] st σ Q := gs_if f_105_1 rfl
theorem f_105_2 : ft 105 2 = some (4, .iload_n 1, []) := rfl
theorem s_105_2 {d : Nat} {σ : xS} {st : List Value} {Q : xR → xS → Prop} {l0 : Option Value} {x : Int32} : G d 105 2 [l0, some (.int x)] st σ Q ↔ G d 105 3 [l0, some (.int x)] (.int x :: st) σ Q := gs_go f_105_2 rfl
theorem f_105_3 : ft 105 3 = some (5, .bipush 10, []) := rfl
theorem s_105_3 {d : Nat} {σ : xS} {st : List Value} {Q : xR → xS → Prop} {l0 l1 : Option Value} : G d 105 3 [l0, l1] st σ Q ↔ G d 105 4 [l0, l1] (.int (10) :: st) σ Q := gs_go f_105_3 rfl
theorem f_105_4 : ft 105 4 = some (7, .if_icmp .le 11, [9]) := rfl
theorem s_105_4 {d : Nat} {σ : xS} {st : List Value} {Q : xR → xS → Prop} {l0 l1 : Option Value} {x y : Int32} : G d 105 4 [l0, l1] (.int y :: .int x :: st) σ Q ↔ if x ≤ y then G d 105 9 [l0, l1] st σ Q else G d 105 5 [l0, l1] st σ Q := gs_if f_105_4 rfl
theorem f_105_5 : ft 105 5 = some (10, .new 86, [1, 0, 594, 88]) := rfl
theorem s_105_5 {d : Nat} {σ : xS} {ls : xL} {st : List Value} {Q : xR → xS → Prop} : G d 105 5 ls st σ Q ↔ (xcat st ≤ 8 ∧ σ.2.1.1 < 900000) ∧ Q (.inr 0) (xbump (.inr 0) σ) := gs_thr (e := 0) f_105_5
theorem f_105_6 : ft 105 6 = some (13, .dup, []) := rfl
theorem s_105_6 {d : Nat} {σ : xS} {st : List Value} {Q : xR → xS → Prop} {l0 l1 : Option Value} {x : Nat} : G d 105 6 [l0, l1] (.ref x :: st) σ Q ↔ G d 105 7 [l0, l1] (.ref x :: .ref x :: st) σ Q := gs_go f_105_6 rfl
theorem s_105_6i {d : Nat} {σ : xS} {st : List Value} {Q : xR → xS → Prop} {l0 l1 : Option Value} {x : Int32} : G d 105 6 [l0, l1] (.int x :: st) σ Q ↔ G d 105 7 [l0, l1] (.int x :: .int x :: st) σ Q := gs_go f_105_6 rfl
theorem f_105_7 : ft 105 7 = some (14, .invokespecial 88, [0, 1, 23, 636]) := rfl
theorem f_105_8 : ft 105 8 = some (17, .athrow, []) := rfl
theorem f_105_9 : ft 105 9 = some (18, .aload_n 0, []) := rfl
theorem s_105_9 {d : Nat} {σ : xS} {st : List Value} {Q : xR → xS → Prop} {l1 : Option Value} {x : Nat} : G d 105 9 [some (.ref x), l1] st σ Q ↔ G d 105 10 [some (.ref x), l1] (.ref x :: st) σ Q := gs_go f_105_9 rfl
theorem f_105_10 : ft 105 10 = some (19, .getfield 30, [7, 3, 0, 319]) := rfl
theorem s_105_10 {d : Nat} {t : yT} {st : List Value} {Q : xR → xS → Prop} {l0 l1 : Option Value} {a : Nat} (ho : yisO 7 a) : G d 105 10 [l0, l1] (.ref a :: st) (yemb t) Q ↔ G d 105 11 [l0, l1] (.ref 19 :: st) (yemb t) Q := gs_getf (c := 7) (j := 3) (q := .c 19) f_105_10 ho rfl
theorem f_105_11 : ft 105 11 = some (22, .aload_n 0, []) := rfl
theorem s_105_11 {d : Nat} {σ : xS} {st : List Value} {Q : xR → xS → Prop} {l1 : Option Value} {x : Nat} : G d 105 11 [some (.ref x), l1] st σ Q ↔ G d 105 12 [some (.ref x), l1] (.ref x :: st) σ Q := gs_go f_105_11 rfl
theorem f_105_12 : ft 105 12 = some (23, .getfield 26, [7, 2, 0, 318]) := rfl
theorem s_105_12 {d : Nat} {t : yT} {st : List Value} {Q : xR → xS → Prop} {l0 l1 : Option Value} {a : Nat} (ho : yisO 7 a) : G d 105 12 [l0, l1] (.ref a :: st) (yemb t) Q ↔ G d 105 13 [l0, l1] (.ref 7 :: st) (yemb t) Q := gs_getf (c := 7) (j := 2) (q := .c 7) f_105_12 ho rfl
theorem f_105_13 : ft 105 13 = some (26, .invokevirtual 109, [31, 2, 0, 896]) := rfl
theorem s_105_13 {d : Nat} {t : yT} {st : List Value} {Q : xR → xS → Prop} {l0 l1 : Option Value} {a0 : Nat} {a1 : Nat} (ho : yisO 4 a0) : G (d + 1) 105 13 [l0, l1] (.ref a1 :: .ref a0 :: st) (yemb t) Q ↔ xcat st ≤ 8 ∧ Cl d 31 [.ref a0, .ref a1] (yemb t) (Gk (d + 1) 105 13 [l0, l1] st Q) := gs_call f_105_13 ((xinv_call (i := 13) (n := 896) (ls := [l0, l1]) (kind := 0) (σ := yemb t) (by decide)).trans (xcall_vi [.ref a1, .ref a0] rfl rfl (show (2 : Nat) ≤ 2 by decide) rfl ho))
theorem f_105_14 : ft 105 14 = some (29, .aload_n 0, []) := rfl
theorem s_105_14 {d : Nat} {σ : xS} {st : List Value} {Q : xR → xS → Prop} {l1 : Option Value} {x : Nat} : G d 105 14 [some (.ref x), l1] st σ Q ↔ G d 105 15 [some (.ref x), l1] (.ref x :: st) σ Q := gs_go f_105_14 rfl
theorem f_105_15 : ft 105 15 = some (30, .getfield 30, [7, 3, 0, 319]) := rfl
theorem s_105_15 {d : Nat} {t : yT} {st : List Value} {Q : xR → xS → Prop} {l0 l1 : Option Value} {a : Nat} (ho : yisO 7 a) : G d 105 15 [l0, l1] (.ref a :: st) (yemb t) Q ↔ G d 105 16 [l0, l1] (.ref 19 :: st) (yemb t) Q := gs_getf (c := 7) (j := 3) (q := .c 19) f_105_15 ho rfl
theorem f_105_16 : ft 105 16 = some (33, .aload_n 0, []) := rfl
theorem s_105_16 {d : Nat} {σ : xS} {st : List Value} {Q : xR → xS → Prop} {l1 : Option Value} {x : Nat} : G d 105 16 [some (.ref x), l1] st σ Q ↔ G d 105 17 [some (.ref x), l1] (.ref x :: st) σ Q := gs_go f_105_16 rfl
theorem f_105_17 : ft 105 17 = some (34, .getfield 19, [7, 1, 0, 317]) := rfl
theorem s_105_17 {d : Nat} {t : yT} {st : List Value} {Q : xR → xS → Prop} {l0 l1 : Option Value} {a : Nat} (ho : yisO 7 a) : G d 105 17 [l0, l1] (.ref a :: st) (yemb t) Q ↔ G d 105 18 [l0, l1] (.ref 3 :: st) (yemb t) Q := gs_getf (c := 7) (j := 1) (q := .c 3) f_105_17 ho rfl
theorem f_105_18 : ft 105 18 = some (37, .invokevirtual 227, [53, 2, 0, 1120]) := rfl
theorem s_105_18 {d : Nat} {t : yT} {st : List Value} {Q : xR → xS → Prop} {l0 l1 : Option Value} {a0 : Nat} {a1 : Nat} (ho : yisO 4 a0) : G (d + 1) 105 18 [l0, l1] (.ref a1 :: .ref a0 :: st) (yemb t) Q ↔ xcat st ≤ 8 ∧ Cl d 53 [.ref a0, .ref a1] (yemb t) (Gk (d + 1) 105 18 [l0, l1] st Q) := gs_call f_105_18 ((xinv_call (i := 18) (n := 1120) (ls := [l0, l1]) (kind := 0) (σ := yemb t) (by decide)).trans (xcall_vi [.ref a1, .ref a0] rfl rfl (show (2 : Nat) ≤ 3 by decide) rfl ho))
theorem f_105_19 : ft 105 19 = some (40, .aload_n 0, []) := rfl
theorem s_105_19 {d : Nat} {σ : xS} {st : List Value} {Q : xR → xS → Prop} {l1 : Option Value} {x : Nat} : G d 105 19 [some (.ref x), l1] st σ Q ↔ G d 105 20 [some (.ref x), l1] (.ref x :: st) σ Q := gs_go f_105_19 rfl
theorem f_105_20 : ft 105 20 = some (41, .getfield 30, [7, 3, 0, 319]) := rfl
theorem s_105_20 {d : Nat} {t : yT} {st : List Value} {Q : xR → xS → Prop} {l0 l1 : Option Value} {a : Nat} (ho : yisO 7 a) : G d 105 20 [l0, l1] (.ref a :: st) (yemb t) Q ↔ G d 105 21 [l0, l1] (.ref 19 :: st) (yemb t) Q := gs_getf (c := 7) (j := 3) (q := .c 19) f_105_20 ho rfl
theorem f_105_21 : ft 105 21 = some (44, .iload_n 1, []) := rfl
theorem s_105_21 {d : Nat} {σ : xS} {st : List Value} {Q : xR → xS → Prop} {l0 : Option Value} {x : Int32} : G d 105 21 [l0, some (.int x)] st σ Q ↔ G d 105 22 [l0, some (.int x)] (.int x :: st) σ Q := gs_go f_105_21 rfl
theorem f_105_22 : ft 105 22 = some (45, .invokevirtual 234, [61, 2, 0, 1137]) := rfl
theorem s_105_22 {d : Nat} {t : yT} {st : List Value} {Q : xR → xS → Prop} {l0 l1 : Option Value} {a0 : Nat} {a1 : Int32} (ho : yisO 4 a0) : G (d + 1) 105 22 [l0, l1] (.int a1 :: .ref a0 :: st) (yemb t) Q ↔ xcat st ≤ 8 ∧ Cl d 61 [.ref a0, .int a1] (yemb t) (Gk (d + 1) 105 22 [l0, l1] st Q) := gs_call f_105_22 ((xinv_call (i := 22) (n := 1137) (ls := [l0, l1]) (kind := 0) (σ := yemb t) (by decide)).trans (xcall_vi [.int a1, .ref a0] rfl rfl (show (2 : Nat) ≤ 13 by decide) rfl ho))
theorem f_105_23 : ft 105 23 = some (48, .lreturn, []) := rfl
theorem s_105_23 {d : Nat} {σ : xS} {ls : xL} {Q : xR → xS → Prop} {x : Int64} : G d 105 23 ls [.long x] σ Q ↔ Q (.inl (some (.long x))) σ := gs_ret f_105_23 rfl
theorem f_108_0 : ft 108 0 = some (0, .aload_n 0, []) := rfl
theorem s_108_0 {d : Nat} {σ : xS} {st : List Value} {Q : xR → xS → Prop} {l1 l2 l3 l4 l5 l6 : Option Value} {x : Nat} : G d 108 0 [some (.ref x), l1, l2, l3, l4, l5, l6] st σ Q ↔ G d 108 1 [some (.ref x), l1, l2, l3, l4, l5, l6] (.ref x :: st) σ Q := gs_go f_108_0 rfl
theorem f_108_1 : ft 108 1 = some (1, .getfield 26, [7, 2, 0, 318]) := rfl
theorem s_108_1 {d : Nat} {t : yT} {st : List Value} {Q : xR → xS → Prop} {l0 l1 l2 l3 l4 l5 l6 : Option Value} {a : Nat} (ho : yisO 7 a) : G d 108 1 [l0, l1, l2, l3, l4, l5, l6] (.ref a :: st) (yemb t) Q ↔ G d 108 2 [l0, l1, l2, l3, l4, l5, l6] (.ref 7 :: st) (yemb t) Q := gs_getf (c := 7) (j := 2) (q := .c 7) f_108_1 ho rfl
theorem f_108_2 : ft 108 2 = some (4, .iload_n 1, []) := rfl
theorem s_108_2 {d : Nat} {σ : xS} {st : List Value} {Q : xR → xS → Prop} {l0 l2 l3 l4 l5 l6 : Option Value} {x : Int32} : G d 108 2 [l0, some (.int x), l2, l3, l4, l5, l6] st σ Q ↔ G d 108 3 [l0, some (.int x), l2, l3, l4, l5, l6] (.int x :: st) σ Q := gs_go f_108_2 rfl
theorem f_108_3 : ft 108 3 = some (5, .iload_n 2, []) := rfl
theorem s_108_3 {d : Nat} {σ : xS} {st : List Value} {Q : xR → xS → Prop} {l0 l1 l3 l4 l5 l6 : Option Value} {x : Int32} : G d 108 3 [l0, l1, some (.int x), l3, l4, l5, l6] st σ Q ↔ G d 108 4 [l0, l1, some (.int x), l3, l4, l5, l6] (.int x :: st) σ Q := gs_go f_108_3 rfl
theorem f_108_4 : ft 108 4 = some (6, .iload_n 3, []) := rfl
theorem s_108_4 {d : Nat} {σ : xS} {st : List Value} {Q : xR → xS → Prop} {l0 l1 l2 l4 l5 l6 : Option Value} {x : Int32} : G d 108 4 [l0, l1, l2, some (.int x), l4, l5, l6] st σ Q ↔ G d 108 5 [l0, l1, l2, some (.int x), l4, l5, l6] (.int x :: st) σ Q := gs_go f_108_4 rfl
theorem f_108_5 : ft 108 5 = some (7, .iload 4, []) := rfl
theorem s_108_5 {d : Nat} {σ : xS} {st : List Value} {Q : xR → xS → Prop} {l0 l1 l2 l3 l5 l6 : Option Value} {x : Int32} : G d 108 5 [l0, l1, l2, l3, some (.int x), l5, l6] st σ Q ↔ G d 108 6 [l0, l1, l2, l3, some (.int x), l5, l6] (.int x :: st) σ Q := gs_go f_108_5 rfl
theorem f_108_6 : ft 108 6 = some (9, .iload 5, []) := rfl
theorem s_108_6 {d : Nat} {σ : xS} {st : List Value} {Q : xR → xS → Prop} {l0 l1 l2 l3 l4 l6 : Option Value} {x : Int32} : G d 108 6 [l0, l1, l2, l3, l4, some (.int x), l6] st σ Q ↔ G d 108 7 [l0, l1, l2, l3, l4, some (.int x), l6] (.int x :: st) σ Q := gs_go f_108_6 rfl
theorem f_108_7 : ft 108 7 = some (11, .invokevirtual 252, [38, 6, 0, 1159]) := rfl
theorem s_108_7 {d : Nat} {t : yT} {st : List Value} {Q : xR → xS → Prop} {l0 l1 l2 l3 l4 l5 l6 : Option Value} {a0 : Nat} {a1 : Int32} {a2 : Int32} {a3 : Int32} {a4 : Int32} {a5 : Int32} (ho : yisO 4 a0) : G (d + 1) 108 7 [l0, l1, l2, l3, l4, l5, l6] (.int a5 :: .int a4 :: .int a3 :: .int a2 :: .int a1 :: .ref a0 :: st) (yemb t) Q ↔ xcat st ≤ 8 ∧ Cl d 38 [.ref a0, .int a1, .int a2, .int a3, .int a4, .int a5] (yemb t) (Gk (d + 1) 108 7 [l0, l1, l2, l3, l4, l5, l6] st Q) := gs_call f_108_7 ((xinv_call (i := 7) (n := 1159) (ls := [l0, l1, l2, l3, l4, l5, l6]) (kind := 0) (σ := yemb t) (by decide)).trans (xcall_vi [.int a5, .int a4, .int a3, .int a2, .int a1, .ref a0] rfl rfl (show (6 : Nat) ≤ 6 by decide) rfl ho))
theorem f_108_8 : ft 108 8 = some (14, .istore 6, []) := rfl
theorem s_108_8 {d : Nat} {σ : xS} {st : List Value} {Q : xR → xS → Prop} {l0 l1 l2 l3 l4 l5 l6 : Option Value} {x : Int32} : G d 108 8 [l0, l1, l2, l3, l4, l5, l6] (.int x :: st) σ Q ↔ G d 108 9 [l0, l1, l2, l3, l4, ykl l5, some (.int x)] st σ Q := by
  cases l5 with
  | none => exact gs_go f_108_8 rfl
  | some v => cases v <;> exact gs_go f_108_8 rfl
theorem f_108_9 : ft 108 9 = some (16, .iload 6, []) := rfl
theorem s_108_9 {d : Nat} {σ : xS} {st : List Value} {Q : xR → xS → Prop} {l0 l1 l2 l3 l4 l5 : Option Value} {x : Int32} : G d 108 9 [l0, l1, l2, l3, l4, l5, some (.int x)] st σ Q ↔ G d 108 10 [l0, l1, l2, l3, l4, l5, some (.int x)] (.int x :: st) σ Q := gs_go f_108_9 rfl
theorem f_108_10 : ft 108 10 = some (18, .iconst 3, []) := rfl
theorem s_108_10 {d : Nat} {σ : xS} {st : List Value} {Q : xR → xS → Prop} {l0 l1 l2 l3 l4 l5 l6 : Option Value} : G d 108 10 [l0, l1, l2, l3, l4, l5, l6] st σ Q ↔ G d 108 11 [l0, l1, l2, l3, l4, l5, l6] (.int (3) :: st) σ Q := gs_go f_108_10 rfl
theorem f_108_11 : ft 108 11 = some (19, .if_icmp .ne 11, [16]) := rfl
theorem s_108_11 {d : Nat} {σ : xS} {st : List Value} {Q : xR → xS → Prop} {l0 l1 l2 l3 l4 l5 l6 : Option Value} {x y : Int32} : G d 108 11 [l0, l1, l2, l3, l4, l5, l6] (.int y :: .int x :: st) σ Q ↔ if x ≠ y then G d 108 16 [l0, l1, l2, l3, l4, l5, l6] st σ Q else G d 108 12 [l0, l1, l2, l3, l4, l5, l6] st σ Q := gs_if f_108_11 rfl
theorem f_108_12 : ft 108 12 = some (22, .new 170, [1, 1, 1073, 172]) := rfl
theorem s_108_12 {d : Nat} {σ : xS} {ls : xL} {st : List Value} {Q : xR → xS → Prop} : G d 108 12 ls st σ Q ↔ (xcat st ≤ 8 ∧ σ.2.1.1 < 900000) ∧ Q (.inr 1) (xbump (.inr 1) σ) := gs_thr (e := 1) f_108_12
theorem f_108_13 : ft 108 13 = some (25, .dup, []) := rfl
theorem s_108_13 {d : Nat} {σ : xS} {st : List Value} {Q : xR → xS → Prop} {l0 l1 l2 l3 l4 l5 l6 : Option Value} {x : Nat} : G d 108 13 [l0, l1, l2, l3, l4, l5, l6] (.ref x :: st) σ Q ↔ G d 108 14 [l0, l1, l2, l3, l4, l5, l6] (.ref x :: .ref x :: st) σ Q := gs_go f_108_13 rfl
theorem s_108_13i {d : Nat} {σ : xS} {st : List Value} {Q : xR → xS → Prop} {l0 l1 l2 l3 l4 l5 l6 : Option Value} {x : Int32} : G d 108 13 [l0, l1, l2, l3, l4, l5, l6] (.int x :: st) σ Q ↔ G d 108 14 [l0, l1, l2, l3, l4, l5, l6] (.int x :: .int x :: st) σ Q := gs_go f_108_13 rfl
theorem f_108_14 : ft 108 14 = some (26, .invokespecial 172, [0, 1, 23, 1082]) := rfl
theorem f_108_15 : ft 108 15 = some (29, .athrow, []) := rfl
theorem f_108_16 : ft 108 16 = some (30, .iload 6, []) := rfl
theorem s_108_16 {d : Nat} {σ : xS} {st : List Value} {Q : xR → xS → Prop} {l0 l1 l2 l3 l4 l5 : Option Value} {x : Int32} : G d 108 16 [l0, l1, l2, l3, l4, l5, some (.int x)] st σ Q ↔ G d 108 17 [l0, l1, l2, l3, l4, l5, some (.int x)] (.int x :: st) σ Q := gs_go f_108_16 rfl
theorem f_108_17 : ft 108 17 = some (32, .ifCond .eq 11, [22]) := rfl
theorem s_108_17 {d : Nat} {σ : xS} {st : List Value} {Q : xR → xS → Prop} {l0 l1 l2 l3 l4 l5 l6 : Option Value} {x : Int32} : G d 108 17 [l0, l1, l2, l3, l4, l5, l6] (.int x :: st) σ Q ↔ if x = 0 then G d 108 22 [l0, l1, l2, l3, l4, l5, l6] st σ Q else G d 108 18 [l0, l1, l2, l3, l4, l5, l6] st σ Q := gs_if f_108_17 rfl
theorem f_108_18 : ft 108 18 = some (35, .new 86, [1, 0, 594, 88]) := rfl
theorem s_108_18 {d : Nat} {σ : xS} {ls : xL} {st : List Value} {Q : xR → xS → Prop} : G d 108 18 ls st σ Q ↔ (xcat st ≤ 8 ∧ σ.2.1.1 < 900000) ∧ Q (.inr 0) (xbump (.inr 0) σ) := gs_thr (e := 0) f_108_18
theorem f_108_19 : ft 108 19 = some (38, .dup, []) := rfl
theorem s_108_19 {d : Nat} {σ : xS} {st : List Value} {Q : xR → xS → Prop} {l0 l1 l2 l3 l4 l5 l6 : Option Value} {x : Nat} : G d 108 19 [l0, l1, l2, l3, l4, l5, l6] (.ref x :: st) σ Q ↔ G d 108 20 [l0, l1, l2, l3, l4, l5, l6] (.ref x :: .ref x :: st) σ Q := gs_go f_108_19 rfl
theorem s_108_19i {d : Nat} {σ : xS} {st : List Value} {Q : xR → xS → Prop} {l0 l1 l2 l3 l4 l5 l6 : Option Value} {x : Int32} : G d 108 19 [l0, l1, l2, l3, l4, l5, l6] (.int x :: st) σ Q ↔ G d 108 20 [l0, l1, l2, l3, l4, l5, l6] (.int x :: .int x :: st) σ Q := gs_go f_108_19 rfl
theorem f_108_20 : ft 108 20 = some (39, .invokespecial 88, [0, 1, 23, 636]) := rfl
theorem f_108_21 : ft 108 21 = some (42, .athrow, []) := rfl
theorem f_108_22 : ft 108 22 = some (43, .aload_n 0, []) := rfl
theorem s_108_22 {d : Nat} {σ : xS} {st : List Value} {Q : xR → xS → Prop} {l1 l2 l3 l4 l5 l6 : Option Value} {x : Nat} : G d 108 22 [some (.ref x), l1, l2, l3, l4, l5, l6] st σ Q ↔ G d 108 23 [some (.ref x), l1, l2, l3, l4, l5, l6] (.ref x :: st) σ Q := gs_go f_108_22 rfl
theorem f_108_23 : ft 108 23 = some (44, .getfield 54, [7, 6, 0, 322]) := rfl
theorem s_108_23 {d : Nat} {t : yT} {st : List Value} {Q : xR → xS → Prop} {l0 l1 l2 l3 l4 l5 l6 : Option Value} {a : Nat} (ho : yisO 7 a) : G d 108 23 [l0, l1, l2, l3, l4, l5, l6] (.ref a :: st) (yemb t) Q ↔ G d 108 24 [l0, l1, l2, l3, l4, l5, l6] (.ref 38 :: st) (yemb t) Q := gs_getf (c := 7) (j := 6) (q := .c 38) f_108_23 ho rfl
theorem f_108_24 : ft 108 24 = some (47, .aload_n 0, []) := rfl
theorem s_108_24 {d : Nat} {σ : xS} {st : List Value} {Q : xR → xS → Prop} {l1 l2 l3 l4 l5 l6 : Option Value} {x : Nat} : G d 108 24 [some (.ref x), l1, l2, l3, l4, l5, l6] st σ Q ↔ G d 108 25 [some (.ref x), l1, l2, l3, l4, l5, l6] (.ref x :: st) σ Q := gs_go f_108_24 rfl
theorem f_108_25 : ft 108 25 = some (48, .getfield 26, [7, 2, 0, 318]) := rfl
theorem s_108_25 {d : Nat} {t : yT} {st : List Value} {Q : xR → xS → Prop} {l0 l1 l2 l3 l4 l5 l6 : Option Value} {a : Nat} (ho : yisO 7 a) : G d 108 25 [l0, l1, l2, l3, l4, l5, l6] (.ref a :: st) (yemb t) Q ↔ G d 108 26 [l0, l1, l2, l3, l4, l5, l6] (.ref 7 :: st) (yemb t) Q := gs_getf (c := 7) (j := 2) (q := .c 7) f_108_25 ho rfl
theorem f_108_26 : ft 108 26 = some (51, .invokevirtual 105, [6, 2, 0, 891]) := rfl
theorem s_108_26 {d : Nat} {t : yT} {st : List Value} {Q : xR → xS → Prop} {l0 l1 l2 l3 l4 l5 l6 : Option Value} {a0 : Nat} {a1 : Nat} (ho : yisO 1 a0) : G (d + 1) 108 26 [l0, l1, l2, l3, l4, l5, l6] (.ref a1 :: .ref a0 :: st) (yemb t) Q ↔ xcat st ≤ 8 ∧ Cl d 6 [.ref a0, .ref a1] (yemb t) (Gk (d + 1) 108 26 [l0, l1, l2, l3, l4, l5, l6] st Q) := gs_call f_108_26 ((xinv_call (i := 26) (n := 891) (ls := [l0, l1, l2, l3, l4, l5, l6]) (kind := 0) (σ := yemb t) (by decide)).trans (xcall_vi [.ref a1, .ref a0] rfl rfl (show (2 : Nat) ≤ 2 by decide) rfl ho))
theorem f_108_27 : ft 108 27 = some (54, .aload_n 0, []) := rfl
theorem s_108_27 {d : Nat} {σ : xS} {st : List Value} {Q : xR → xS → Prop} {l1 l2 l3 l4 l5 l6 : Option Value} {x : Nat} : G d 108 27 [some (.ref x), l1, l2, l3, l4, l5, l6] st σ Q ↔ G d 108 28 [some (.ref x), l1, l2, l3, l4, l5, l6] (.ref x :: st) σ Q := gs_go f_108_27 rfl
theorem f_108_28 : ft 108 28 = some (55, .getfield 26, [7, 2, 0, 318]) := rfl
theorem s_108_28 {d : Nat} {t : yT} {st : List Value} {Q : xR → xS → Prop} {l0 l1 l2 l3 l4 l5 l6 : Option Value} {a : Nat} (ho : yisO 7 a) : G d 108 28 [l0, l1, l2, l3, l4, l5, l6] (.ref a :: st) (yemb t) Q ↔ G d 108 29 [l0, l1, l2, l3, l4, l5, l6] (.ref 7 :: st) (yemb t) Q := gs_getf (c := 7) (j := 2) (q := .c 7) f_108_28 ho rfl
theorem f_108_29 : ft 108 29 = some (58, .iload_n 1, []) := rfl
theorem s_108_29 {d : Nat} {σ : xS} {st : List Value} {Q : xR → xS → Prop} {l0 l2 l3 l4 l5 l6 : Option Value} {x : Int32} : G d 108 29 [l0, some (.int x), l2, l3, l4, l5, l6] st σ Q ↔ G d 108 30 [l0, some (.int x), l2, l3, l4, l5, l6] (.int x :: st) σ Q := gs_go f_108_29 rfl
theorem f_108_30 : ft 108 30 = some (59, .iload_n 2, []) := rfl
theorem s_108_30 {d : Nat} {σ : xS} {st : List Value} {Q : xR → xS → Prop} {l0 l1 l3 l4 l5 l6 : Option Value} {x : Int32} : G d 108 30 [l0, l1, some (.int x), l3, l4, l5, l6] st σ Q ↔ G d 108 31 [l0, l1, some (.int x), l3, l4, l5, l6] (.int x :: st) σ Q := gs_go f_108_30 rfl
theorem f_108_31 : ft 108 31 = some (60, .iload_n 3, []) := rfl
theorem s_108_31 {d : Nat} {σ : xS} {st : List Value} {Q : xR → xS → Prop} {l0 l1 l2 l4 l5 l6 : Option Value} {x : Int32} : G d 108 31 [l0, l1, l2, some (.int x), l4, l5, l6] st σ Q ↔ G d 108 32 [l0, l1, l2, some (.int x), l4, l5, l6] (.int x :: st) σ Q := gs_go f_108_31 rfl
theorem f_108_32 : ft 108 32 = some (61, .iload 4, []) := rfl
theorem s_108_32 {d : Nat} {σ : xS} {st : List Value} {Q : xR → xS → Prop} {l0 l1 l2 l3 l5 l6 : Option Value} {x : Int32} : G d 108 32 [l0, l1, l2, l3, some (.int x), l5, l6] st σ Q ↔ G d 108 33 [l0, l1, l2, l3, some (.int x), l5, l6] (.int x :: st) σ Q := gs_go f_108_32 rfl
theorem f_108_33 : ft 108 33 = some (63, .iload 5, []) := rfl
theorem s_108_33 {d : Nat} {σ : xS} {st : List Value} {Q : xR → xS → Prop} {l0 l1 l2 l3 l4 l6 : Option Value} {x : Int32} : G d 108 33 [l0, l1, l2, l3, l4, some (.int x), l6] st σ Q ↔ G d 108 34 [l0, l1, l2, l3, l4, some (.int x), l6] (.int x :: st) σ Q := gs_go f_108_33 rfl
theorem f_108_34 : ft 108 34 = some (65, .invokestatic 256, [121, 3, 1, 1160]) := rfl
theorem s_108_34 {d : Nat} {σ : xS} {st : List Value} {Q : xR → xS → Prop} {l0 l1 l2 l3 l4 l5 l6 : Option Value} {a0 : Int32} {a1 : Int32} {a2 : Int32} : G (d + 1) 108 34 [l0, l1, l2, l3, l4, l5, l6] (.int a2 :: .int a1 :: .int a0 :: st) σ Q ↔ xcat st ≤ 8 ∧ Cl d 121 [.int a0, .int a1, .int a2] σ (Gk (d + 1) 108 34 [l0, l1, l2, l3, l4, l5, l6] st Q) := gs_call f_108_34 ((xinv_call (i := 34) (n := 1160) (ls := [l0, l1, l2, l3, l4, l5, l6]) (kind := 1) (σ := σ) (by decide)).trans (xcall_st [.int a2, .int a1, .int a0] rfl (by decide) (show (3 : Nat) ≤ 3 by decide)))
theorem f_108_35 : ft 108 35 = some (68, .invokevirtual 260, [39, 4, 0, 1161]) := rfl
theorem s_108_35 {d : Nat} {t : yT} {st : List Value} {Q : xR → xS → Prop} {l0 l1 l2 l3 l4 l5 l6 : Option Value} {a0 : Nat} {a1 : Int32} {a2 : Int32} {a3 : Int32} (ho : yisO 4 a0) : G (d + 1) 108 35 [l0, l1, l2, l3, l4, l5, l6] (.int a3 :: .int a2 :: .int a1 :: .ref a0 :: st) (yemb t) Q ↔ xcat st ≤ 8 ∧ Cl d 39 [.ref a0, .int a1, .int a2, .int a3] (yemb t) (Gk (d + 1) 108 35 [l0, l1, l2, l3, l4, l5, l6] st Q) := gs_call f_108_35 ((xinv_call (i := 35) (n := 1161) (ls := [l0, l1, l2, l3, l4, l5, l6]) (kind := 0) (σ := yemb t) (by decide)).trans (xcall_vi [.int a3, .int a2, .int a1, .ref a0] rfl rfl (show (4 : Nat) ≤ 6 by decide) rfl ho))
theorem f_108_36 : ft 108 36 = some (71, .ireturn, []) := rfl
theorem s_108_36 {d : Nat} {σ : xS} {ls : xL} {Q : xR → xS → Prop} {x : Int32} : G d 108 36 ls [.int x] σ Q ↔ Q (.inl (some (.int x))) σ := gs_reti f_108_36 rfl
theorem f_109_0 : ft 109 0 = some (0, .iload_n 1, []) := rfl
theorem s_109_0 {d : Nat} {σ : xS} {st : List Value} {Q : xR → xS → Prop} {l0 : Option Value} {x : Int32} : G d 109 0 [l0, some (.int x)] st σ Q ↔ G d 109 1 [l0, some (.int x)] (.int x :: st) σ Q := gs_go f_109_0 rfl
theorem f_109_1 : ft 109 1 = some (1, .ifCond .lt 10, [5]) := rfl
theorem s_109_1 {d : Nat} {σ : xS} {st : List Value} {Q : xR → xS → Prop} {l0 l1 : Option Value} {x : Int32} : G d 109 1 [l0, l1] (.int x :: st) σ Q ↔ if x < 0 then G d 109 5 [l0, l1] st σ Q else G d 109 2 [l0, l1] st σ Q := gs_if f_109_1 rfl
theorem f_109_2 : ft 109 2 = some (4, .iload_n 1, []) := rfl
theorem s_109_2 {d : Nat} {σ : xS} {st : List Value} {Q : xR → xS → Prop} {l0 : Option Value} {x : Int32} : G d 109 2 [l0, some (.int x)] st σ Q ↔ G d 109 3 [l0, some (.int x)] (.int x :: st) σ Q := gs_go f_109_2 rfl
theorem f_109_3 : ft 109 3 = some (5, .sipush 9999, []) := rfl
theorem s_109_3 {d : Nat} {σ : xS} {st : List Value} {Q : xR → xS → Prop} {l0 l1 : Option Value} : G d 109 3 [l0, l1] st σ Q ↔ G d 109 4 [l0, l1] (.int (9999) :: st) σ Q := gs_go f_109_3 rfl
theorem f_109_4 : ft 109 4 = some (8, .if_icmp .le 11, [9]) := rfl
theorem s_109_4 {d : Nat} {σ : xS} {st : List Value} {Q : xR → xS → Prop} {l0 l1 : Option Value} {x y : Int32} : G d 109 4 [l0, l1] (.int y :: .int x :: st) σ Q ↔ if x ≤ y then G d 109 9 [l0, l1] st σ Q else G d 109 5 [l0, l1] st σ Q := gs_if f_109_4 rfl
theorem f_109_5 : ft 109 5 = some (11, .new 86, [1, 0, 594, 88]) := rfl
theorem s_109_5 {d : Nat} {σ : xS} {ls : xL} {st : List Value} {Q : xR → xS → Prop} : G d 109 5 ls st σ Q ↔ (xcat st ≤ 8 ∧ σ.2.1.1 < 900000) ∧ Q (.inr 0) (xbump (.inr 0) σ) := gs_thr (e := 0) f_109_5
theorem f_109_6 : ft 109 6 = some (14, .dup, []) := rfl
theorem s_109_6 {d : Nat} {σ : xS} {st : List Value} {Q : xR → xS → Prop} {l0 l1 : Option Value} {x : Nat} : G d 109 6 [l0, l1] (.ref x :: st) σ Q ↔ G d 109 7 [l0, l1] (.ref x :: .ref x :: st) σ Q := gs_go f_109_6 rfl
theorem s_109_6i {d : Nat} {σ : xS} {st : List Value} {Q : xR → xS → Prop} {l0 l1 : Option Value} {x : Int32} : G d 109 6 [l0, l1] (.int x :: st) σ Q ↔ G d 109 7 [l0, l1] (.int x :: .int x :: st) σ Q := gs_go f_109_6 rfl
theorem f_109_7 : ft 109 7 = some (15, .invokespecial 88, [0, 1, 23, 636]) := rfl
theorem f_109_8 : ft 109 8 = some (18, .athrow, []) := rfl
theorem f_109_9 : ft 109 9 = some (19, .aload_n 0, []) := rfl
theorem s_109_9 {d : Nat} {σ : xS} {st : List Value} {Q : xR → xS → Prop} {l1 : Option Value} {x : Nat} : G d 109 9 [some (.ref x), l1] st σ Q ↔ G d 109 10 [some (.ref x), l1] (.ref x :: st) σ Q := gs_go f_109_9 rfl
theorem f_109_10 : ft 109 10 = some (20, .getfield 54, [7, 6, 0, 322]) := rfl
theorem s_109_10 {d : Nat} {t : yT} {st : List Value} {Q : xR → xS → Prop} {l0 l1 : Option Value} {a : Nat} (ho : yisO 7 a) : G d 109 10 [l0, l1] (.ref a :: st) (yemb t) Q ↔ G d 109 11 [l0, l1] (.ref 38 :: st) (yemb t) Q := gs_getf (c := 7) (j := 6) (q := .c 38) f_109_10 ho rfl
theorem f_109_11 : ft 109 11 = some (23, .aload_n 0, []) := rfl
theorem s_109_11 {d : Nat} {σ : xS} {st : List Value} {Q : xR → xS → Prop} {l1 : Option Value} {x : Nat} : G d 109 11 [some (.ref x), l1] st σ Q ↔ G d 109 12 [some (.ref x), l1] (.ref x :: st) σ Q := gs_go f_109_11 rfl
theorem f_109_12 : ft 109 12 = some (24, .getfield 26, [7, 2, 0, 318]) := rfl
theorem s_109_12 {d : Nat} {t : yT} {st : List Value} {Q : xR → xS → Prop} {l0 l1 : Option Value} {a : Nat} (ho : yisO 7 a) : G d 109 12 [l0, l1] (.ref a :: st) (yemb t) Q ↔ G d 109 13 [l0, l1] (.ref 7 :: st) (yemb t) Q := gs_getf (c := 7) (j := 2) (q := .c 7) f_109_12 ho rfl
theorem f_109_13 : ft 109 13 = some (27, .invokevirtual 105, [6, 2, 0, 891]) := rfl
theorem s_109_13 {d : Nat} {t : yT} {st : List Value} {Q : xR → xS → Prop} {l0 l1 : Option Value} {a0 : Nat} {a1 : Nat} (ho : yisO 1 a0) : G (d + 1) 109 13 [l0, l1] (.ref a1 :: .ref a0 :: st) (yemb t) Q ↔ xcat st ≤ 8 ∧ Cl d 6 [.ref a0, .ref a1] (yemb t) (Gk (d + 1) 109 13 [l0, l1] st Q) := gs_call f_109_13 ((xinv_call (i := 13) (n := 891) (ls := [l0, l1]) (kind := 0) (σ := yemb t) (by decide)).trans (xcall_vi [.ref a1, .ref a0] rfl rfl (show (2 : Nat) ≤ 2 by decide) rfl ho))
theorem f_109_14 : ft 109 14 = some (30, .aload_n 0, []) := rfl
theorem s_109_14 {d : Nat} {σ : xS} {st : List Value} {Q : xR → xS → Prop} {l1 : Option Value} {x : Nat} : G d 109 14 [some (.ref x), l1] st σ Q ↔ G d 109 15 [some (.ref x), l1] (.ref x :: st) σ Q := gs_go f_109_14 rfl
theorem f_109_15 : ft 109 15 = some (31, .getfield 26, [7, 2, 0, 318]) := rfl
theorem s_109_15 {d : Nat} {t : yT} {st : List Value} {Q : xR → xS → Prop} {l0 l1 : Option Value} {a : Nat} (ho : yisO 7 a) : G d 109 15 [l0, l1] (.ref a :: st) (yemb t) Q ↔ G d 109 16 [l0, l1] (.ref 7 :: st) (yemb t) Q := gs_getf (c := 7) (j := 2) (q := .c 7) f_109_15 ho rfl
theorem f_109_16 : ft 109 16 = some (34, .iload_n 1, []) := rfl
theorem s_109_16 {d : Nat} {σ : xS} {st : List Value} {Q : xR → xS → Prop} {l0 : Option Value} {x : Int32} : G d 109 16 [l0, some (.int x)] st σ Q ↔ G d 109 17 [l0, some (.int x)] (.int x :: st) σ Q := gs_go f_109_16 rfl
theorem f_109_17 : ft 109 17 = some (35, .invokevirtual 263, [40, 2, 0, 1169]) := rfl
theorem s_109_17 {d : Nat} {t : yT} {st : List Value} {Q : xR → xS → Prop} {l0 l1 : Option Value} {a0 : Nat} {a1 : Int32} (ho : yisO 4 a0) : G (d + 1) 109 17 [l0, l1] (.int a1 :: .ref a0 :: st) (yemb t) Q ↔ xcat st ≤ 8 ∧ Cl d 40 [.ref a0, .int a1] (yemb t) (Gk (d + 1) 109 17 [l0, l1] st Q) := gs_call f_109_17 ((xinv_call (i := 17) (n := 1169) (ls := [l0, l1]) (kind := 0) (σ := yemb t) (by decide)).trans (xcall_vi [.int a1, .ref a0] rfl rfl (show (2 : Nat) ≤ 3 by decide) rfl ho))
theorem f_109_18 : ft 109 18 = some (38, .ireturn, []) := rfl
theorem s_109_18 {d : Nat} {σ : xS} {ls : xL} {Q : xR → xS → Prop} {x : Int32} : G d 109 18 ls [.int x] σ Q ↔ Q (.inl (some (.int x))) σ := gs_reti f_109_18 rfl
theorem f_110_0 : ft 110 0 = some (0, .iload_n 1, []) := rfl
theorem s_110_0 {d : Nat} {σ : xS} {st : List Value} {Q : xR → xS → Prop} {l0 l2 : Option Value} {x : Int32} : G d 110 0 [l0, some (.int x), l2] st σ Q ↔ G d 110 1 [l0, some (.int x), l2] (.int x :: st) σ Q := gs_go f_110_0 rfl
theorem f_110_1 : ft 110 1 = some (1, .invokestatic 266, [119, 1, 1, 1177]) := rfl
theorem s_110_1 {d : Nat} {σ : xS} {st : List Value} {Q : xR → xS → Prop} {l0 l1 l2 : Option Value} {a0 : Int32} : G (d + 1) 110 1 [l0, l1, l2] (.int a0 :: st) σ Q ↔ xcat st ≤ 8 ∧ Cl d 119 [.int a0] σ (Gk (d + 1) 110 1 [l0, l1, l2] st Q) := gs_call f_110_1 ((xinv_call (i := 1) (n := 1177) (ls := [l0, l1, l2]) (kind := 1) (σ := σ) (by decide)).trans (xcall_st [.int a0] rfl (by decide) (show (1 : Nat) ≤ 1 by decide)))
theorem f_110_2 : ft 110 2 = some (4, .ifCond .ne 11, [7]) := rfl
theorem s_110_2 {d : Nat} {σ : xS} {st : List Value} {Q : xR → xS → Prop} {l0 l1 l2 : Option Value} {x : Int32} : G d 110 2 [l0, l1, l2] (.int x :: st) σ Q ↔ if x ≠ 0 then G d 110 7 [l0, l1, l2] st σ Q else G d 110 3 [l0, l1, l2] st σ Q := gs_if f_110_2 rfl
theorem f_110_3 : ft 110 3 = some (7, .new 86, [1, 0, 594, 88]) := rfl
theorem s_110_3 {d : Nat} {σ : xS} {ls : xL} {st : List Value} {Q : xR → xS → Prop} : G d 110 3 ls st σ Q ↔ (xcat st ≤ 8 ∧ σ.2.1.1 < 900000) ∧ Q (.inr 0) (xbump (.inr 0) σ) := gs_thr (e := 0) f_110_3
theorem f_110_4 : ft 110 4 = some (10, .dup, []) := rfl
theorem s_110_4 {d : Nat} {σ : xS} {st : List Value} {Q : xR → xS → Prop} {l0 l1 l2 : Option Value} {x : Nat} : G d 110 4 [l0, l1, l2] (.ref x :: st) σ Q ↔ G d 110 5 [l0, l1, l2] (.ref x :: .ref x :: st) σ Q := gs_go f_110_4 rfl
theorem s_110_4i {d : Nat} {σ : xS} {st : List Value} {Q : xR → xS → Prop} {l0 l1 l2 : Option Value} {x : Int32} : G d 110 4 [l0, l1, l2] (.int x :: st) σ Q ↔ G d 110 5 [l0, l1, l2] (.int x :: .int x :: st) σ Q := gs_go f_110_4 rfl
theorem f_110_5 : ft 110 5 = some (11, .invokespecial 88, [0, 1, 23, 636]) := rfl
theorem f_110_6 : ft 110 6 = some (14, .athrow, []) := rfl
theorem f_110_7 : ft 110 7 = some (15, .aload_n 0, []) := rfl
theorem s_110_7 {d : Nat} {σ : xS} {st : List Value} {Q : xR → xS → Prop} {l1 l2 : Option Value} {x : Nat} : G d 110 7 [some (.ref x), l1, l2] st σ Q ↔ G d 110 8 [some (.ref x), l1, l2] (.ref x :: st) σ Q := gs_go f_110_7 rfl
theorem f_110_8 : ft 110 8 = some (16, .getfield 54, [7, 6, 0, 322]) := rfl
theorem s_110_8 {d : Nat} {t : yT} {st : List Value} {Q : xR → xS → Prop} {l0 l1 l2 : Option Value} {a : Nat} (ho : yisO 7 a) : G d 110 8 [l0, l1, l2] (.ref a :: st) (yemb t) Q ↔ G d 110 9 [l0, l1, l2] (.ref 38 :: st) (yemb t) Q := gs_getf (c := 7) (j := 6) (q := .c 38) f_110_8 ho rfl
theorem f_110_9 : ft 110 9 = some (19, .aload_n 0, []) := rfl
theorem s_110_9 {d : Nat} {σ : xS} {st : List Value} {Q : xR → xS → Prop} {l1 l2 : Option Value} {x : Nat} : G d 110 9 [some (.ref x), l1, l2] st σ Q ↔ G d 110 10 [some (.ref x), l1, l2] (.ref x :: st) σ Q := gs_go f_110_9 rfl
theorem f_110_10 : ft 110 10 = some (20, .getfield 26, [7, 2, 0, 318]) := rfl
theorem s_110_10 {d : Nat} {t : yT} {st : List Value} {Q : xR → xS → Prop} {l0 l1 l2 : Option Value} {a : Nat} (ho : yisO 7 a) : G d 110 10 [l0, l1, l2] (.ref a :: st) (yemb t) Q ↔ G d 110 11 [l0, l1, l2] (.ref 7 :: st) (yemb t) Q := gs_getf (c := 7) (j := 2) (q := .c 7) f_110_10 ho rfl
theorem f_110_11 : ft 110 11 = some (23, .invokevirtual 105, [6, 2, 0, 891]) := rfl
theorem s_110_11 {d : Nat} {t : yT} {st : List Value} {Q : xR → xS → Prop} {l0 l1 l2 : Option Value} {a0 : Nat} {a1 : Nat} (ho : yisO 1 a0) : G (d + 1) 110 11 [l0, l1, l2] (.ref a1 :: .ref a0 :: st) (yemb t) Q ↔ xcat st ≤ 8 ∧ Cl d 6 [.ref a0, .ref a1] (yemb t) (Gk (d + 1) 110 11 [l0, l1, l2] st Q) := gs_call f_110_11 ((xinv_call (i := 11) (n := 891) (ls := [l0, l1, l2]) (kind := 0) (σ := yemb t) (by decide)).trans (xcall_vi [.ref a1, .ref a0] rfl rfl (show (2 : Nat) ≤ 2 by decide) rfl ho))
theorem f_110_12 : ft 110 12 = some (26, .aload_n 0, []) := rfl
theorem s_110_12 {d : Nat} {σ : xS} {st : List Value} {Q : xR → xS → Prop} {l1 l2 : Option Value} {x : Nat} : G d 110 12 [some (.ref x), l1, l2] st σ Q ↔ G d 110 13 [some (.ref x), l1, l2] (.ref x :: st) σ Q := gs_go f_110_12 rfl
theorem f_110_13 : ft 110 13 = some (27, .getfield 26, [7, 2, 0, 318]) := rfl
theorem s_110_13 {d : Nat} {t : yT} {st : List Value} {Q : xR → xS → Prop} {l0 l1 l2 : Option Value} {a : Nat} (ho : yisO 7 a) : G d 110 13 [l0, l1, l2] (.ref a :: st) (yemb t) Q ↔ G d 110 14 [l0, l1, l2] (.ref 7 :: st) (yemb t) Q := gs_getf (c := 7) (j := 2) (q := .c 7) f_110_13 ho rfl
theorem f_110_14 : ft 110 14 = some (30, .getfield 132, [4, 11, 1, 166]) := rfl
theorem s_110_14 {d : Nat} {t : yT} {st : List Value} {Q : xR → xS → Prop} {l0 l1 l2 : Option Value} {a : Nat} (ho : yisO 4 a) : G d 110 14 [l0, l1, l2] (.ref a :: st) (yemb t) Q ↔ G d 110 15 [l0, l1, l2] (.int (t.A a 11) :: st) (yemb t) Q := gs_getf (c := 4) (j := 11) (q := .i) f_110_14 ho rfl
theorem f_110_15 : ft 110 15 = some (33, .istore_n 2, []) := rfl
theorem s_110_15 {d : Nat} {σ : xS} {st : List Value} {Q : xR → xS → Prop} {l0 l1 l2 : Option Value} {x : Int32} : G d 110 15 [l0, l1, l2] (.int x :: st) σ Q ↔ G d 110 16 [l0, ykl l1, some (.int x)] st σ Q := by
  cases l1 with
  | none => exact gs_go f_110_15 rfl
  | some v => cases v <;> exact gs_go f_110_15 rfl
theorem f_110_16 : ft 110 16 = some (34, .aload_n 0, []) := rfl
theorem s_110_16 {d : Nat} {σ : xS} {st : List Value} {Q : xR → xS → Prop} {l1 l2 : Option Value} {x : Nat} : G d 110 16 [some (.ref x), l1, l2] st σ Q ↔ G d 110 17 [some (.ref x), l1, l2] (.ref x :: st) σ Q := gs_go f_110_16 rfl
theorem f_110_17 : ft 110 17 = some (35, .getfield 26, [7, 2, 0, 318]) := rfl
theorem s_110_17 {d : Nat} {t : yT} {st : List Value} {Q : xR → xS → Prop} {l0 l1 l2 : Option Value} {a : Nat} (ho : yisO 7 a) : G d 110 17 [l0, l1, l2] (.ref a :: st) (yemb t) Q ↔ G d 110 18 [l0, l1, l2] (.ref 7 :: st) (yemb t) Q := gs_getf (c := 7) (j := 2) (q := .c 7) f_110_17 ho rfl
theorem f_110_18 : ft 110 18 = some (38, .iload_n 1, []) := rfl
theorem s_110_18 {d : Nat} {σ : xS} {st : List Value} {Q : xR → xS → Prop} {l0 l2 : Option Value} {x : Int32} : G d 110 18 [l0, some (.int x), l2] st σ Q ↔ G d 110 19 [l0, some (.int x), l2] (.int x :: st) σ Q := gs_go f_110_18 rfl
theorem f_110_19 : ft 110 19 = some (39, .putfield 132, [4, 11, 1, 166]) := rfl
theorem s_110_19 {d : Nat} {t : yT} {st : List Value} {Q : xR → xS → Prop} {l0 l1 l2 : Option Value} {a : Nat} {x : Int32} (ho : yisO 4 a) : G d 110 19 [l0, l1, l2] (.int x :: .ref a :: st) (yemb t) Q ↔ G d 110 20 [l0, l1, l2] st (yemb (t.s1 a 11 x)) Q := gs_putI (c := 4) (j := 11) f_110_19 (fun _ => rfl) rfl rfl ho
theorem f_110_20 : ft 110 20 = some (42, .iload_n 2, []) := rfl
theorem s_110_20 {d : Nat} {σ : xS} {st : List Value} {Q : xR → xS → Prop} {l0 l1 : Option Value} {x : Int32} : G d 110 20 [l0, l1, some (.int x)] st σ Q ↔ G d 110 21 [l0, l1, some (.int x)] (.int x :: st) σ Q := gs_go f_110_20 rfl
theorem f_110_21 : ft 110 21 = some (43, .ireturn, []) := rfl
theorem s_110_21 {d : Nat} {σ : xS} {ls : xL} {Q : xR → xS → Prop} {x : Int32} : G d 110 21 ls [.int x] σ Q ↔ Q (.inl (some (.int x))) σ := gs_reti f_110_21 rfl
theorem f_111_0 : ft 111 0 = some (0, .iload_n 1, []) := rfl
theorem s_111_0 {d : Nat} {σ : xS} {st : List Value} {Q : xR → xS → Prop} {l0 l2 : Option Value} {x : Int32} : G d 111 0 [l0, some (.int x), l2] st σ Q ↔ G d 111 1 [l0, some (.int x), l2] (.int x :: st) σ Q := gs_go f_111_0 rfl
theorem f_111_1 : ft 111 1 = some (1, .iconst 1, []) := rfl
theorem s_111_1 {d : Nat} {σ : xS} {st : List Value} {Q : xR → xS → Prop} {l0 l1 l2 : Option Value} : G d 111 1 [l0, l1, l2] st σ Q ↔ G d 111 2 [l0, l1, l2] (.int (1) :: st) σ Q := gs_go f_111_1 rfl
theorem f_111_2 : ft 111 2 = some (2, .if_icmp .lt 9, [6]) := rfl
theorem s_111_2 {d : Nat} {σ : xS} {st : List Value} {Q : xR → xS → Prop} {l0 l1 l2 : Option Value} {x y : Int32} : G d 111 2 [l0, l1, l2] (.int y :: .int x :: st) σ Q ↔ if x < y then G d 111 6 [l0, l1, l2] st σ Q else G d 111 3 [l0, l1, l2] st σ Q := gs_if f_111_2 rfl
theorem f_111_3 : ft 111 3 = some (5, .iload_n 1, []) := rfl
theorem s_111_3 {d : Nat} {σ : xS} {st : List Value} {Q : xR → xS → Prop} {l0 l2 : Option Value} {x : Int32} : G d 111 3 [l0, some (.int x), l2] st σ Q ↔ G d 111 4 [l0, some (.int x), l2] (.int x :: st) σ Q := gs_go f_111_3 rfl
theorem f_111_4 : ft 111 4 = some (6, .bipush 50, []) := rfl
theorem s_111_4 {d : Nat} {σ : xS} {st : List Value} {Q : xR → xS → Prop} {l0 l1 l2 : Option Value} : G d 111 4 [l0, l1, l2] st σ Q ↔ G d 111 5 [l0, l1, l2] (.int (50) :: st) σ Q := gs_go f_111_4 rfl
theorem f_111_5 : ft 111 5 = some (8, .if_icmp .le 11, [10]) := rfl
theorem s_111_5 {d : Nat} {σ : xS} {st : List Value} {Q : xR → xS → Prop} {l0 l1 l2 : Option Value} {x y : Int32} : G d 111 5 [l0, l1, l2] (.int y :: .int x :: st) σ Q ↔ if x ≤ y then G d 111 10 [l0, l1, l2] st σ Q else G d 111 6 [l0, l1, l2] st σ Q := gs_if f_111_5 rfl
theorem f_111_6 : ft 111 6 = some (11, .new 86, [1, 0, 594, 88]) := rfl
theorem s_111_6 {d : Nat} {σ : xS} {ls : xL} {st : List Value} {Q : xR → xS → Prop} : G d 111 6 ls st σ Q ↔ (xcat st ≤ 8 ∧ σ.2.1.1 < 900000) ∧ Q (.inr 0) (xbump (.inr 0) σ) := gs_thr (e := 0) f_111_6
theorem f_111_7 : ft 111 7 = some (14, .dup, []) := rfl
theorem s_111_7 {d : Nat} {σ : xS} {st : List Value} {Q : xR → xS → Prop} {l0 l1 l2 : Option Value} {x : Nat} : G d 111 7 [l0, l1, l2] (.ref x :: st) σ Q ↔ G d 111 8 [l0, l1, l2] (.ref x :: .ref x :: st) σ Q := gs_go f_111_7 rfl
theorem s_111_7i {d : Nat} {σ : xS} {st : List Value} {Q : xR → xS → Prop} {l0 l1 l2 : Option Value} {x : Int32} : G d 111 7 [l0, l1, l2] (.int x :: st) σ Q ↔ G d 111 8 [l0, l1, l2] (.int x :: .int x :: st) σ Q := gs_go f_111_7 rfl
theorem f_111_8 : ft 111 8 = some (15, .invokespecial 88, [0, 1, 23, 636]) := rfl
theorem f_111_9 : ft 111 9 = some (18, .athrow, []) := rfl
theorem f_111_10 : ft 111 10 = some (19, .aload_n 0, []) := rfl
theorem s_111_10 {d : Nat} {σ : xS} {st : List Value} {Q : xR → xS → Prop} {l1 l2 : Option Value} {x : Nat} : G d 111 10 [some (.ref x), l1, l2] st σ Q ↔ G d 111 11 [some (.ref x), l1, l2] (.ref x :: st) σ Q := gs_go f_111_10 rfl
theorem f_111_11 : ft 111 11 = some (20, .getfield 54, [7, 6, 0, 322]) := rfl
theorem s_111_11 {d : Nat} {t : yT} {st : List Value} {Q : xR → xS → Prop} {l0 l1 l2 : Option Value} {a : Nat} (ho : yisO 7 a) : G d 111 11 [l0, l1, l2] (.ref a :: st) (yemb t) Q ↔ G d 111 12 [l0, l1, l2] (.ref 38 :: st) (yemb t) Q := gs_getf (c := 7) (j := 6) (q := .c 38) f_111_11 ho rfl
theorem f_111_12 : ft 111 12 = some (23, .aload_n 0, []) := rfl
theorem s_111_12 {d : Nat} {σ : xS} {st : List Value} {Q : xR → xS → Prop} {l1 l2 : Option Value} {x : Nat} : G d 111 12 [some (.ref x), l1, l2] st σ Q ↔ G d 111 13 [some (.ref x), l1, l2] (.ref x :: st) σ Q := gs_go f_111_12 rfl
theorem f_111_13 : ft 111 13 = some (24, .getfield 26, [7, 2, 0, 318]) := rfl
theorem s_111_13 {d : Nat} {t : yT} {st : List Value} {Q : xR → xS → Prop} {l0 l1 l2 : Option Value} {a : Nat} (ho : yisO 7 a) : G d 111 13 [l0, l1, l2] (.ref a :: st) (yemb t) Q ↔ G d 111 14 [l0, l1, l2] (.ref 7 :: st) (yemb t) Q := gs_getf (c := 7) (j := 2) (q := .c 7) f_111_13 ho rfl
theorem f_111_14 : ft 111 14 = some (27, .invokevirtual 105, [6, 2, 0, 891]) := rfl
theorem s_111_14 {d : Nat} {t : yT} {st : List Value} {Q : xR → xS → Prop} {l0 l1 l2 : Option Value} {a0 : Nat} {a1 : Nat} (ho : yisO 1 a0) : G (d + 1) 111 14 [l0, l1, l2] (.ref a1 :: .ref a0 :: st) (yemb t) Q ↔ xcat st ≤ 8 ∧ Cl d 6 [.ref a0, .ref a1] (yemb t) (Gk (d + 1) 111 14 [l0, l1, l2] st Q) := gs_call f_111_14 ((xinv_call (i := 14) (n := 891) (ls := [l0, l1, l2]) (kind := 0) (σ := yemb t) (by decide)).trans (xcall_vi [.ref a1, .ref a0] rfl rfl (show (2 : Nat) ≤ 2 by decide) rfl ho))
theorem f_111_15 : ft 111 15 = some (30, .iconst 0, []) := rfl
theorem s_111_15 {d : Nat} {σ : xS} {st : List Value} {Q : xR → xS → Prop} {l0 l1 l2 : Option Value} : G d 111 15 [l0, l1, l2] st σ Q ↔ G d 111 16 [l0, l1, l2] (.int (0) :: st) σ Q := gs_go f_111_15 rfl
theorem f_111_16 : ft 111 16 = some (31, .istore_n 2, []) := rfl
theorem s_111_16 {d : Nat} {σ : xS} {st : List Value} {Q : xR → xS → Prop} {l0 l1 l2 : Option Value} {x : Int32} : G d 111 16 [l0, l1, l2] (.int x :: st) σ Q ↔ G d 111 17 [l0, ykl l1, some (.int x)] st σ Q := by
  cases l1 with
  | none => exact gs_go f_111_16 rfl
  | some v => cases v <;> exact gs_go f_111_16 rfl
theorem f_111_17 : ft 111 17 = some (32, .iload_n 2, []) := rfl
theorem s_111_17 {d : Nat} {σ : xS} {st : List Value} {Q : xR → xS → Prop} {l0 l1 : Option Value} {x : Int32} : G d 111 17 [l0, l1, some (.int x)] st σ Q ↔ G d 111 18 [l0, l1, some (.int x)] (.int x :: st) σ Q := gs_go f_111_17 rfl
theorem f_111_18 : ft 111 18 = some (33, .iload_n 1, []) := rfl
theorem s_111_18 {d : Nat} {σ : xS} {st : List Value} {Q : xR → xS → Prop} {l0 l2 : Option Value} {x : Int32} : G d 111 18 [l0, some (.int x), l2] st σ Q ↔ G d 111 19 [l0, some (.int x), l2] (.int x :: st) σ Q := gs_go f_111_18 rfl
theorem f_111_19 : ft 111 19 = some (34, .if_icmp .ge 20, [27]) := rfl
theorem s_111_19 {d : Nat} {σ : xS} {st : List Value} {Q : xR → xS → Prop} {l0 l1 l2 : Option Value} {x y : Int32} : G d 111 19 [l0, l1, l2] (.int y :: .int x :: st) σ Q ↔ if y ≤ x then G d 111 27 [l0, l1, l2] st σ Q else G d 111 20 [l0, l1, l2] st σ Q := gs_if f_111_19 rfl
theorem f_111_20 : ft 111 20 = some (37, .aload_n 0, []) := rfl
theorem s_111_20 {d : Nat} {σ : xS} {st : List Value} {Q : xR → xS → Prop} {l1 l2 : Option Value} {x : Nat} : G d 111 20 [some (.ref x), l1, l2] st σ Q ↔ G d 111 21 [some (.ref x), l1, l2] (.ref x :: st) σ Q := gs_go f_111_20 rfl
theorem f_111_21 : ft 111 21 = some (38, .getfield 26, [7, 2, 0, 318]) := rfl
theorem s_111_21 {d : Nat} {t : yT} {st : List Value} {Q : xR → xS → Prop} {l0 l1 l2 : Option Value} {a : Nat} (ho : yisO 7 a) : G d 111 21 [l0, l1, l2] (.ref a :: st) (yemb t) Q ↔ G d 111 22 [l0, l1, l2] (.ref 7 :: st) (yemb t) Q := gs_getf (c := 7) (j := 2) (q := .c 7) f_111_21 ho rfl
theorem f_111_22 : ft 111 22 = some (41, .aload_n 0, []) := rfl
theorem s_111_22 {d : Nat} {σ : xS} {st : List Value} {Q : xR → xS → Prop} {l1 l2 : Option Value} {x : Nat} : G d 111 22 [some (.ref x), l1, l2] st σ Q ↔ G d 111 23 [some (.ref x), l1, l2] (.ref x :: st) σ Q := gs_go f_111_22 rfl
theorem f_111_23 : ft 111 23 = some (42, .getfield 19, [7, 1, 0, 317]) := rfl
theorem s_111_23 {d : Nat} {t : yT} {st : List Value} {Q : xR → xS → Prop} {l0 l1 l2 : Option Value} {a : Nat} (ho : yisO 7 a) : G d 111 23 [l0, l1, l2] (.ref a :: st) (yemb t) Q ↔ G d 111 24 [l0, l1, l2] (.ref 3 :: st) (yemb t) Q := gs_getf (c := 7) (j := 1) (q := .c 3) f_111_23 ho rfl
theorem f_111_24 : ft 111 24 = some (45, .invokevirtual 269, [52, 2, 0, 1185]) := rfl
theorem s_111_24 {d : Nat} {t : yT} {st : List Value} {Q : xR → xS → Prop} {l0 l1 l2 : Option Value} {a0 : Nat} {a1 : Nat} (ho : yisO 4 a0) : G (d + 1) 111 24 [l0, l1, l2] (.ref a1 :: .ref a0 :: st) (yemb t) Q ↔ xcat st ≤ 8 ∧ Cl d 52 [.ref a0, .ref a1] (yemb t) (Gk (d + 1) 111 24 [l0, l1, l2] st Q) := gs_call f_111_24 ((xinv_call (i := 24) (n := 1185) (ls := [l0, l1, l2]) (kind := 0) (σ := yemb t) (by decide)).trans (xcall_vi [.ref a1, .ref a0] rfl rfl (show (2 : Nat) ≤ 2 by decide) rfl ho))
theorem f_111_25 : ft 111 25 = some (48, .iinc 2 1, []) := rfl
theorem s_111_25 {d : Nat} {σ : xS} {st : List Value} {Q : xR → xS → Prop} {l0 l1 : Option Value} {x : Int32} : G d 111 25 [l0, l1, some (.int x)] st σ Q ↔ G d 111 26 [l0, ykl l1, some (.int (x + 1))] st σ Q := by
  cases l1 with
  | none => exact gs_go f_111_25 rfl
  | some v => cases v <;> exact gs_go f_111_25 rfl
theorem f_111_26 : ft 111 26 = some (51, .goto (-19), [17]) := rfl
theorem s_111_26 {d : Nat} {σ : xS} {st : List Value} {Q : xR → xS → Prop} {l0 l1 l2 : Option Value} : G d 111 26 [l0, l1, l2] st σ Q ↔ G d 111 17 [l0, l1, l2] st σ Q := gs_go f_111_26 rfl
theorem f_111_27 : ft 111 27 = some (54, .aload_n 0, []) := rfl
theorem s_111_27 {d : Nat} {σ : xS} {st : List Value} {Q : xR → xS → Prop} {l1 l2 : Option Value} {x : Nat} : G d 111 27 [some (.ref x), l1, l2] st σ Q ↔ G d 111 28 [some (.ref x), l1, l2] (.ref x :: st) σ Q := gs_go f_111_27 rfl
theorem f_111_28 : ft 111 28 = some (55, .getfield 26, [7, 2, 0, 318]) := rfl
theorem s_111_28 {d : Nat} {t : yT} {st : List Value} {Q : xR → xS → Prop} {l0 l1 l2 : Option Value} {a : Nat} (ho : yisO 7 a) : G d 111 28 [l0, l1, l2] (.ref a :: st) (yemb t) Q ↔ G d 111 29 [l0, l1, l2] (.ref 7 :: st) (yemb t) Q := gs_getf (c := 7) (j := 2) (q := .c 7) f_111_28 ho rfl
theorem f_111_29 : ft 111 29 = some (58, .invokevirtual 151, [59, 1, 0, 1122]) := rfl
theorem s_111_29 {d : Nat} {t : yT} {st : List Value} {Q : xR → xS → Prop} {l0 l1 l2 : Option Value} {a0 : Nat} (ho : yisO 4 a0) : G (d + 1) 111 29 [l0, l1, l2] (.ref a0 :: st) (yemb t) Q ↔ xcat st ≤ 8 ∧ Cl d 59 [.ref a0] (yemb t) (Gk (d + 1) 111 29 [l0, l1, l2] st Q) := gs_call f_111_29 ((xinv_call (i := 29) (n := 1122) (ls := [l0, l1, l2]) (kind := 0) (σ := yemb t) (by decide)).trans (xcall_vi [.ref a0] rfl rfl (show (1 : Nat) ≤ 3 by decide) rfl ho))
theorem f_111_30 : ft 111 30 = some (61, .ireturn, []) := rfl
theorem s_111_30 {d : Nat} {σ : xS} {ls : xL} {Q : xR → xS → Prop} {x : Int32} : G d 111 30 ls [.int x] σ Q ↔ Q (.inl (some (.int x))) σ := gs_reti f_111_30 rfl
theorem f_112_0 : ft 112 0 = some (0, .aload_n 0, []) := rfl
theorem s_112_0 {d : Nat} {σ : xS} {st : List Value} {Q : xR → xS → Prop} {l1 l2 l3 : Option Value} {x : Nat} : G d 112 0 [some (.ref x), l1, l2, l3] st σ Q ↔ G d 112 1 [some (.ref x), l1, l2, l3] (.ref x :: st) σ Q := gs_go f_112_0 rfl
theorem f_112_1 : ft 112 1 = some (1, .getfield 26, [7, 2, 0, 318]) := rfl
theorem s_112_1 {d : Nat} {t : yT} {st : List Value} {Q : xR → xS → Prop} {l0 l1 l2 l3 : Option Value} {a : Nat} (ho : yisO 7 a) : G d 112 1 [l0, l1, l2, l3] (.ref a :: st) (yemb t) Q ↔ G d 112 2 [l0, l1, l2, l3] (.ref 7 :: st) (yemb t) Q := gs_getf (c := 7) (j := 2) (q := .c 7) f_112_1 ho rfl
theorem f_112_2 : ft 112 2 = some (4, .iload_n 1, []) := rfl
theorem s_112_2 {d : Nat} {σ : xS} {st : List Value} {Q : xR → xS → Prop} {l0 l2 l3 : Option Value} {x : Int32} : G d 112 2 [l0, some (.int x), l2, l3] st σ Q ↔ G d 112 3 [l0, some (.int x), l2, l3] (.int x :: st) σ Q := gs_go f_112_2 rfl
theorem f_112_3 : ft 112 3 = some (5, .invokevirtual 166, [32, 2, 0, 1072]) := rfl
theorem s_112_3 {d : Nat} {t : yT} {st : List Value} {Q : xR → xS → Prop} {l0 l1 l2 l3 : Option Value} {a0 : Nat} {a1 : Int32} (ho : yisO 4 a0) : G (d + 1) 112 3 [l0, l1, l2, l3] (.int a1 :: .ref a0 :: st) (yemb t) Q ↔ xcat st ≤ 8 ∧ Cl d 32 [.ref a0, .int a1] (yemb t) (Gk (d + 1) 112 3 [l0, l1, l2, l3] st Q) := gs_call f_112_3 ((xinv_call (i := 3) (n := 1072) (ls := [l0, l1, l2, l3]) (kind := 0) (σ := yemb t) (by decide)).trans (xcall_vi [.int a1, .ref a0] rfl rfl (show (2 : Nat) ≤ 2 by decide) rfl ho))
theorem f_112_4 : ft 112 4 = some (8, .ifCond .ne 11, [9]) := rfl
theorem s_112_4 {d : Nat} {σ : xS} {st : List Value} {Q : xR → xS → Prop} {l0 l1 l2 l3 : Option Value} {x : Int32} : G d 112 4 [l0, l1, l2, l3] (.int x :: st) σ Q ↔ if x ≠ 0 then G d 112 9 [l0, l1, l2, l3] st σ Q else G d 112 5 [l0, l1, l2, l3] st σ Q := gs_if f_112_4 rfl
theorem f_112_5 : ft 112 5 = some (11, .new 170, [1, 1, 1073, 172]) := rfl
theorem s_112_5 {d : Nat} {σ : xS} {ls : xL} {st : List Value} {Q : xR → xS → Prop} : G d 112 5 ls st σ Q ↔ (xcat st ≤ 8 ∧ σ.2.1.1 < 900000) ∧ Q (.inr 1) (xbump (.inr 1) σ) := gs_thr (e := 1) f_112_5
theorem f_112_6 : ft 112 6 = some (14, .dup, []) := rfl
theorem s_112_6 {d : Nat} {σ : xS} {st : List Value} {Q : xR → xS → Prop} {l0 l1 l2 l3 : Option Value} {x : Nat} : G d 112 6 [l0, l1, l2, l3] (.ref x :: st) σ Q ↔ G d 112 7 [l0, l1, l2, l3] (.ref x :: .ref x :: st) σ Q := gs_go f_112_6 rfl
theorem s_112_6i {d : Nat} {σ : xS} {st : List Value} {Q : xR → xS → Prop} {l0 l1 l2 l3 : Option Value} {x : Int32} : G d 112 6 [l0, l1, l2, l3] (.int x :: st) σ Q ↔ G d 112 7 [l0, l1, l2, l3] (.int x :: .int x :: st) σ Q := gs_go f_112_6 rfl
theorem f_112_7 : ft 112 7 = some (15, .invokespecial 172, [0, 1, 23, 1082]) := rfl
theorem f_112_8 : ft 112 8 = some (18, .athrow, []) := rfl
theorem f_112_9 : ft 112 9 = some (19, .aload_n 0, []) := rfl
theorem s_112_9 {d : Nat} {σ : xS} {st : List Value} {Q : xR → xS → Prop} {l1 l2 l3 : Option Value} {x : Nat} : G d 112 9 [some (.ref x), l1, l2, l3] st σ Q ↔ G d 112 10 [some (.ref x), l1, l2, l3] (.ref x :: st) σ Q := gs_go f_112_9 rfl
theorem f_112_10 : ft 112 10 = some (20, .getfield 54, [7, 6, 0, 322]) := rfl
theorem s_112_10 {d : Nat} {t : yT} {st : List Value} {Q : xR → xS → Prop} {l0 l1 l2 l3 : Option Value} {a : Nat} (ho : yisO 7 a) : G d 112 10 [l0, l1, l2, l3] (.ref a :: st) (yemb t) Q ↔ G d 112 11 [l0, l1, l2, l3] (.ref 38 :: st) (yemb t) Q := gs_getf (c := 7) (j := 6) (q := .c 38) f_112_10 ho rfl
theorem f_112_11 : ft 112 11 = some (23, .aload_n 0, []) := rfl
theorem s_112_11 {d : Nat} {σ : xS} {st : List Value} {Q : xR → xS → Prop} {l1 l2 l3 : Option Value} {x : Nat} : G d 112 11 [some (.ref x), l1, l2, l3] st σ Q ↔ G d 112 12 [some (.ref x), l1, l2, l3] (.ref x :: st) σ Q := gs_go f_112_11 rfl
theorem f_112_12 : ft 112 12 = some (24, .getfield 26, [7, 2, 0, 318]) := rfl
theorem s_112_12 {d : Nat} {t : yT} {st : List Value} {Q : xR → xS → Prop} {l0 l1 l2 l3 : Option Value} {a : Nat} (ho : yisO 7 a) : G d 112 12 [l0, l1, l2, l3] (.ref a :: st) (yemb t) Q ↔ G d 112 13 [l0, l1, l2, l3] (.ref 7 :: st) (yemb t) Q := gs_getf (c := 7) (j := 2) (q := .c 7) f_112_12 ho rfl
theorem f_112_13 : ft 112 13 = some (27, .invokevirtual 105, [6, 2, 0, 891]) := rfl
theorem s_112_13 {d : Nat} {t : yT} {st : List Value} {Q : xR → xS → Prop} {l0 l1 l2 l3 : Option Value} {a0 : Nat} {a1 : Nat} (ho : yisO 1 a0) : G (d + 1) 112 13 [l0, l1, l2, l3] (.ref a1 :: .ref a0 :: st) (yemb t) Q ↔ xcat st ≤ 8 ∧ Cl d 6 [.ref a0, .ref a1] (yemb t) (Gk (d + 1) 112 13 [l0, l1, l2, l3] st Q) := gs_call f_112_13 ((xinv_call (i := 13) (n := 891) (ls := [l0, l1, l2, l3]) (kind := 0) (σ := yemb t) (by decide)).trans (xcall_vi [.ref a1, .ref a0] rfl rfl (show (2 : Nat) ≤ 2 by decide) rfl ho))
theorem f_112_14 : ft 112 14 = some (30, .aload_n 0, []) := rfl
theorem s_112_14 {d : Nat} {σ : xS} {st : List Value} {Q : xR → xS → Prop} {l1 l2 l3 : Option Value} {x : Nat} : G d 112 14 [some (.ref x), l1, l2, l3] st σ Q ↔ G d 112 15 [some (.ref x), l1, l2, l3] (.ref x :: st) σ Q := gs_go f_112_14 rfl
theorem f_112_15 : ft 112 15 = some (31, .getfield 26, [7, 2, 0, 318]) := rfl
theorem s_112_15 {d : Nat} {t : yT} {st : List Value} {Q : xR → xS → Prop} {l0 l1 l2 l3 : Option Value} {a : Nat} (ho : yisO 7 a) : G d 112 15 [l0, l1, l2, l3] (.ref a :: st) (yemb t) Q ↔ G d 112 16 [l0, l1, l2, l3] (.ref 7 :: st) (yemb t) Q := gs_getf (c := 7) (j := 2) (q := .c 7) f_112_15 ho rfl
theorem f_112_16 : ft 112 16 = some (34, .iload_n 1, []) := rfl
theorem s_112_16 {d : Nat} {σ : xS} {st : List Value} {Q : xR → xS → Prop} {l0 l2 l3 : Option Value} {x : Int32} : G d 112 16 [l0, some (.int x), l2, l3] st σ Q ↔ G d 112 17 [l0, some (.int x), l2, l3] (.int x :: st) σ Q := gs_go f_112_16 rfl
theorem f_112_17 : ft 112 17 = some (35, .invokevirtual 177, [34, 2, 0, 1193]) := rfl
theorem s_112_17 {d : Nat} {t : yT} {st : List Value} {Q : xR → xS → Prop} {l0 l1 l2 l3 : Option Value} {a0 : Nat} {a1 : Int32} (ho : yisO 4 a0) : G (d + 1) 112 17 [l0, l1, l2, l3] (.int a1 :: .ref a0 :: st) (yemb t) Q ↔ xcat st ≤ 8 ∧ Cl d 34 [.ref a0, .int a1] (yemb t) (Gk (d + 1) 112 17 [l0, l1, l2, l3] st Q) := gs_call f_112_17 ((xinv_call (i := 17) (n := 1193) (ls := [l0, l1, l2, l3]) (kind := 0) (σ := yemb t) (by decide)).trans (xcall_vi [.int a1, .ref a0] rfl rfl (show (2 : Nat) ≤ 2 by decide) rfl ho))
theorem f_112_18 : ft 112 18 = some (38, .istore_n 3, []) := rfl
theorem s_112_18 {d : Nat} {σ : xS} {st : List Value} {Q : xR → xS → Prop} {l0 l1 l2 l3 : Option Value} {x : Int32} : G d 112 18 [l0, l1, l2, l3] (.int x :: st) σ Q ↔ G d 112 19 [l0, l1, ykl l2, some (.int x)] st σ Q := by
  cases l2 with
  | none => exact gs_go f_112_18 rfl
  | some v => cases v <;> exact gs_go f_112_18 rfl
theorem f_112_19 : ft 112 19 = some (39, .aload_n 0, []) := rfl
theorem s_112_19 {d : Nat} {σ : xS} {st : List Value} {Q : xR → xS → Prop} {l1 l2 l3 : Option Value} {x : Nat} : G d 112 19 [some (.ref x), l1, l2, l3] st σ Q ↔ G d 112 20 [some (.ref x), l1, l2, l3] (.ref x :: st) σ Q := gs_go f_112_19 rfl
theorem f_112_20 : ft 112 20 = some (40, .getfield 26, [7, 2, 0, 318]) := rfl
theorem s_112_20 {d : Nat} {t : yT} {st : List Value} {Q : xR → xS → Prop} {l0 l1 l2 l3 : Option Value} {a : Nat} (ho : yisO 7 a) : G d 112 20 [l0, l1, l2, l3] (.ref a :: st) (yemb t) Q ↔ G d 112 21 [l0, l1, l2, l3] (.ref 7 :: st) (yemb t) Q := gs_getf (c := 7) (j := 2) (q := .c 7) f_112_20 ho rfl
theorem f_112_21 : ft 112 21 = some (43, .iload_n 1, []) := rfl
theorem s_112_21 {d : Nat} {σ : xS} {st : List Value} {Q : xR → xS → Prop} {l0 l2 l3 : Option Value} {x : Int32} : G d 112 21 [l0, some (.int x), l2, l3] st σ Q ↔ G d 112 22 [l0, some (.int x), l2, l3] (.int x :: st) σ Q := gs_go f_112_21 rfl
theorem f_112_22 : ft 112 22 = some (44, .iload_n 2, []) := rfl
theorem s_112_22 {d : Nat} {σ : xS} {st : List Value} {Q : xR → xS → Prop} {l0 l1 l3 : Option Value} {x : Int32} : G d 112 22 [l0, l1, some (.int x), l3] st σ Q ↔ G d 112 23 [l0, l1, some (.int x), l3] (.int x :: st) σ Q := gs_go f_112_22 rfl
theorem f_112_23 : ft 112 23 = some (45, .invokevirtual 272, [35, 3, 0, 1194]) := rfl
theorem s_112_23 {d : Nat} {t : yT} {st : List Value} {Q : xR → xS → Prop} {l0 l1 l2 l3 : Option Value} {a0 : Nat} {a1 : Int32} {a2 : Int32} (ho : yisO 4 a0) : G (d + 1) 112 23 [l0, l1, l2, l3] (.int a2 :: .int a1 :: .ref a0 :: st) (yemb t) Q ↔ xcat st ≤ 8 ∧ Cl d 35 [.ref a0, .int a1, .int a2] (yemb t) (Gk (d + 1) 112 23 [l0, l1, l2, l3] st Q) := gs_call f_112_23 ((xinv_call (i := 23) (n := 1194) (ls := [l0, l1, l2, l3]) (kind := 0) (σ := yemb t) (by decide)).trans (xcall_vi [.int a2, .int a1, .ref a0] rfl rfl (show (3 : Nat) ≤ 3 by decide) rfl ho))
theorem f_112_24 : ft 112 24 = some (48, .iload_n 3, []) := rfl
theorem s_112_24 {d : Nat} {σ : xS} {st : List Value} {Q : xR → xS → Prop} {l0 l1 l2 : Option Value} {x : Int32} : G d 112 24 [l0, l1, l2, some (.int x)] st σ Q ↔ G d 112 25 [l0, l1, l2, some (.int x)] (.int x :: st) σ Q := gs_go f_112_24 rfl
theorem f_112_25 : ft 112 25 = some (49, .ireturn, []) := rfl
theorem s_112_25 {d : Nat} {σ : xS} {ls : xL} {Q : xR → xS → Prop} {x : Int32} : G d 112 25 ls [.int x] σ Q ↔ ybo x ∧ Q (.inl (some (.int x))) σ := gs_retb f_112_25 rfl
theorem f_113_0 : ft 113 0 = some (0, .aload_n 0, []) := rfl
theorem s_113_0 {d : Nat} {σ : xS} {st : List Value} {Q : xR → xS → Prop} {l1 l2 l3 l4 : Option Value} {x : Nat} : G d 113 0 [some (.ref x), l1, l2, l3, l4] st σ Q ↔ G d 113 1 [some (.ref x), l1, l2, l3, l4] (.ref x :: st) σ Q := gs_go f_113_0 rfl
theorem f_113_1 : ft 113 1 = some (1, .getfield 26, [7, 2, 0, 318]) := rfl
theorem s_113_1 {d : Nat} {t : yT} {st : List Value} {Q : xR → xS → Prop} {l0 l1 l2 l3 l4 : Option Value} {a : Nat} (ho : yisO 7 a) : G d 113 1 [l0, l1, l2, l3, l4] (.ref a :: st) (yemb t) Q ↔ G d 113 2 [l0, l1, l2, l3, l4] (.ref 7 :: st) (yemb t) Q := gs_getf (c := 7) (j := 2) (q := .c 7) f_113_1 ho rfl
theorem f_113_2 : ft 113 2 = some (4, .iload_n 1, []) := rfl
theorem s_113_2 {d : Nat} {σ : xS} {st : List Value} {Q : xR → xS → Prop} {l0 l2 l3 l4 : Option Value} {x : Int32} : G d 113 2 [l0, some (.int x), l2, l3, l4] st σ Q ↔ G d 113 3 [l0, some (.int x), l2, l3, l4] (.int x :: st) σ Q := gs_go f_113_2 rfl
theorem f_113_3 : ft 113 3 = some (5, .invokevirtual 166, [32, 2, 0, 1072]) := rfl
theorem s_113_3 {d : Nat} {t : yT} {st : List Value} {Q : xR → xS → Prop} {l0 l1 l2 l3 l4 : Option Value} {a0 : Nat} {a1 : Int32} (ho : yisO 4 a0) : G (d + 1) 113 3 [l0, l1, l2, l3, l4] (.int a1 :: .ref a0 :: st) (yemb t) Q ↔ xcat st ≤ 8 ∧ Cl d 32 [.ref a0, .int a1] (yemb t) (Gk (d + 1) 113 3 [l0, l1, l2, l3, l4] st Q) := gs_call f_113_3 ((xinv_call (i := 3) (n := 1072) (ls := [l0, l1, l2, l3, l4]) (kind := 0) (σ := yemb t) (by decide)).trans (xcall_vi [.int a1, .ref a0] rfl rfl (show (2 : Nat) ≤ 2 by decide) rfl ho))
theorem f_113_4 : ft 113 4 = some (8, .ifCond .ne 11, [9]) := rfl
theorem s_113_4 {d : Nat} {σ : xS} {st : List Value} {Q : xR → xS → Prop} {l0 l1 l2 l3 l4 : Option Value} {x : Int32} : G d 113 4 [l0, l1, l2, l3, l4] (.int x :: st) σ Q ↔ if x ≠ 0 then G d 113 9 [l0, l1, l2, l3, l4] st σ Q else G d 113 5 [l0, l1, l2, l3, l4] st σ Q := gs_if f_113_4 rfl
theorem f_113_5 : ft 113 5 = some (11, .new 170, [1, 1, 1073, 172]) := rfl
theorem s_113_5 {d : Nat} {σ : xS} {ls : xL} {st : List Value} {Q : xR → xS → Prop} : G d 113 5 ls st σ Q ↔ (xcat st ≤ 8 ∧ σ.2.1.1 < 900000) ∧ Q (.inr 1) (xbump (.inr 1) σ) := gs_thr (e := 1) f_113_5
theorem f_113_6 : ft 113 6 = some (14, .dup, []) := rfl
theorem s_113_6 {d : Nat} {σ : xS} {st : List Value} {Q : xR → xS → Prop} {l0 l1 l2 l3 l4 : Option Value} {x : Nat} : G d 113 6 [l0, l1, l2, l3, l4] (.ref x :: st) σ Q ↔ G d 113 7 [l0, l1, l2, l3, l4] (.ref x :: .ref x :: st) σ Q := gs_go f_113_6 rfl
theorem s_113_6i {d : Nat} {σ : xS} {st : List Value} {Q : xR → xS → Prop} {l0 l1 l2 l3 l4 : Option Value} {x : Int32} : G d 113 6 [l0, l1, l2, l3, l4] (.int x :: st) σ Q ↔ G d 113 7 [l0, l1, l2, l3, l4] (.int x :: .int x :: st) σ Q := gs_go f_113_6 rfl
theorem f_113_7 : ft 113 7 = some (15, .invokespecial 172, [0, 1, 23, 1082]) := rfl
theorem f_113_8 : ft 113 8 = some (18, .athrow, []) := rfl
theorem f_113_9 : ft 113 9 = some (19, .iload_n 2, []) := rfl
theorem s_113_9 {d : Nat} {σ : xS} {st : List Value} {Q : xR → xS → Prop} {l0 l1 l3 l4 : Option Value} {x : Int32} : G d 113 9 [l0, l1, some (.int x), l3, l4] st σ Q ↔ G d 113 10 [l0, l1, some (.int x), l3, l4] (.int x :: st) σ Q := gs_go f_113_9 rfl
theorem f_113_10 : ft 113 10 = some (20, .ifCond .lt 16, [18]) := rfl
theorem s_113_10 {d : Nat} {σ : xS} {st : List Value} {Q : xR → xS → Prop} {l0 l1 l2 l3 l4 : Option Value} {x : Int32} : G d 113 10 [l0, l1, l2, l3, l4] (.int x :: st) σ Q ↔ if x < 0 then G d 113 18 [l0, l1, l2, l3, l4] st σ Q else G d 113 11 [l0, l1, l2, l3, l4] st σ Q := gs_if f_113_10 rfl
theorem f_113_11 : ft 113 11 = some (23, .iload_n 2, []) := rfl
theorem s_113_11 {d : Nat} {σ : xS} {st : List Value} {Q : xR → xS → Prop} {l0 l1 l3 l4 : Option Value} {x : Int32} : G d 113 11 [l0, l1, some (.int x), l3, l4] st σ Q ↔ G d 113 12 [l0, l1, some (.int x), l3, l4] (.int x :: st) σ Q := gs_go f_113_11 rfl
theorem f_113_12 : ft 113 12 = some (24, .iconst 3, []) := rfl
theorem s_113_12 {d : Nat} {σ : xS} {st : List Value} {Q : xR → xS → Prop} {l0 l1 l2 l3 l4 : Option Value} : G d 113 12 [l0, l1, l2, l3, l4] st σ Q ↔ G d 113 13 [l0, l1, l2, l3, l4] (.int (3) :: st) σ Q := gs_go f_113_12 rfl
theorem f_113_13 : ft 113 13 = some (25, .if_icmp .gt 11, [18]) := rfl
theorem s_113_13 {d : Nat} {σ : xS} {st : List Value} {Q : xR → xS → Prop} {l0 l1 l2 l3 l4 : Option Value} {x y : Int32} : G d 113 13 [l0, l1, l2, l3, l4] (.int y :: .int x :: st) σ Q ↔ if y < x then G d 113 18 [l0, l1, l2, l3, l4] st σ Q else G d 113 14 [l0, l1, l2, l3, l4] st σ Q := gs_if f_113_13 rfl
theorem f_113_14 : ft 113 14 = some (28, .iload_n 2, []) := rfl
theorem s_113_14 {d : Nat} {σ : xS} {st : List Value} {Q : xR → xS → Prop} {l0 l1 l3 l4 : Option Value} {x : Int32} : G d 113 14 [l0, l1, some (.int x), l3, l4] st σ Q ↔ G d 113 15 [l0, l1, some (.int x), l3, l4] (.int x :: st) σ Q := gs_go f_113_14 rfl
theorem f_113_15 : ft 113 15 = some (29, .iload_n 3, []) := rfl
theorem s_113_15 {d : Nat} {σ : xS} {st : List Value} {Q : xR → xS → Prop} {l0 l1 l2 l4 : Option Value} {x : Int32} : G d 113 15 [l0, l1, l2, some (.int x), l4] st σ Q ↔ G d 113 16 [l0, l1, l2, some (.int x), l4] (.int x :: st) σ Q := gs_go f_113_15 rfl
theorem f_113_16 : ft 113 16 = some (30, .invokestatic 276, [120, 2, 1, 1203]) := rfl
theorem s_113_16 {d : Nat} {σ : xS} {st : List Value} {Q : xR → xS → Prop} {l0 l1 l2 l3 l4 : Option Value} {a0 : Int32} {a1 : Int32} : G (d + 1) 113 16 [l0, l1, l2, l3, l4] (.int a1 :: .int a0 :: st) σ Q ↔ xcat st ≤ 8 ∧ Cl d 120 [.int a0, .int a1] σ (Gk (d + 1) 113 16 [l0, l1, l2, l3, l4] st Q) := gs_call f_113_16 ((xinv_call (i := 16) (n := 1203) (ls := [l0, l1, l2, l3, l4]) (kind := 1) (σ := σ) (by decide)).trans (xcall_st [.int a1, .int a0] rfl (by decide) (show (2 : Nat) ≤ 2 by decide)))
theorem f_113_17 : ft 113 17 = some (33, .ifCond .ne 11, [22]) := rfl
theorem s_113_17 {d : Nat} {σ : xS} {st : List Value} {Q : xR → xS → Prop} {l0 l1 l2 l3 l4 : Option Value} {x : Int32} : G d 113 17 [l0, l1, l2, l3, l4] (.int x :: st) σ Q ↔ if x ≠ 0 then G d 113 22 [l0, l1, l2, l3, l4] st σ Q else G d 113 18 [l0, l1, l2, l3, l4] st σ Q := gs_if f_113_17 rfl
theorem f_113_18 : ft 113 18 = some (36, .new 86, [1, 0, 594, 88]) := rfl
theorem s_113_18 {d : Nat} {σ : xS} {ls : xL} {st : List Value} {Q : xR → xS → Prop} : G d 113 18 ls st σ Q ↔ (xcat st ≤ 8 ∧ σ.2.1.1 < 900000) ∧ Q (.inr 0) (xbump (.inr 0) σ) := gs_thr (e := 0) f_113_18
theorem f_113_19 : ft 113 19 = some (39, .dup, []) := rfl
theorem s_113_19 {d : Nat} {σ : xS} {st : List Value} {Q : xR → xS → Prop} {l0 l1 l2 l3 l4 : Option Value} {x : Nat} : G d 113 19 [l0, l1, l2, l3, l4] (.ref x :: st) σ Q ↔ G d 113 20 [l0, l1, l2, l3, l4] (.ref x :: .ref x :: st) σ Q := gs_go f_113_19 rfl
theorem s_113_19i {d : Nat} {σ : xS} {st : List Value} {Q : xR → xS → Prop} {l0 l1 l2 l3 l4 : Option Value} {x : Int32} : G d 113 19 [l0, l1, l2, l3, l4] (.int x :: st) σ Q ↔ G d 113 20 [l0, l1, l2, l3, l4] (.int x :: .int x :: st) σ Q := gs_go f_113_19 rfl
theorem f_113_20 : ft 113 20 = some (40, .invokespecial 88, [0, 1, 23, 636]) := rfl
theorem f_113_21 : ft 113 21 = some (43, .athrow, []) := rfl
theorem f_113_22 : ft 113 22 = some (44, .aload_n 0, []) := rfl
theorem s_113_22 {d : Nat} {σ : xS} {st : List Value} {Q : xR → xS → Prop} {l1 l2 l3 l4 : Option Value} {x : Nat} : G d 113 22 [some (.ref x), l1, l2, l3, l4] st σ Q ↔ G d 113 23 [some (.ref x), l1, l2, l3, l4] (.ref x :: st) σ Q := gs_go f_113_22 rfl
theorem f_113_23 : ft 113 23 = some (45, .getfield 26, [7, 2, 0, 318]) := rfl
theorem s_113_23 {d : Nat} {t : yT} {st : List Value} {Q : xR → xS → Prop} {l0 l1 l2 l3 l4 : Option Value} {a : Nat} (ho : yisO 7 a) : G d 113 23 [l0, l1, l2, l3, l4] (.ref a :: st) (yemb t) Q ↔ G d 113 24 [l0, l1, l2, l3, l4] (.ref 7 :: st) (yemb t) Q := gs_getf (c := 7) (j := 2) (q := .c 7) f_113_23 ho rfl
theorem f_113_24 : ft 113 24 = some (48, .getfield 173, [4, 2, 1, 147]) := rfl
theorem s_113_24 {d : Nat} {t : yT} {st : List Value} {Q : xR → xS → Prop} {l0 l1 l2 l3 l4 : Option Value} {a : Nat} (ho : yisO 4 a) : G d 113 24 [l0, l1, l2, l3, l4] (.ref a :: st) (yemb t) Q ↔ G d 113 25 [l0, l1, l2, l3, l4] (.ref (a + 3) :: st) (yemb t) Q := gs_getf (c := 4) (j := 2) (q := .c (a + 3)) f_113_24 ho rfl
theorem f_113_25 : ft 113 25 = some (51, .iload_n 1, []) := rfl
theorem s_113_25 {d : Nat} {σ : xS} {st : List Value} {Q : xR → xS → Prop} {l0 l2 l3 l4 : Option Value} {x : Int32} : G d 113 25 [l0, some (.int x), l2, l3, l4] st σ Q ↔ G d 113 26 [l0, some (.int x), l2, l3, l4] (.int x :: st) σ Q := gs_go f_113_25 rfl
theorem f_113_26 : ft 113 26 = some (52, .iaload, []) := rfl
theorem s_113_26 {d : Nat} {t : yT} {st : List Value} {Q : xR → xS → Prop} {l0 l1 l2 l3 l4 : Option Value} {a : Nat} {x : Int32} (ha : yA 0 a) : G d 113 26 [l0, l1, l2, l3, l4] (.int x :: .ref a :: st) (yemb t) Q ↔ yix x (yn a) ∧ G d 113 27 [l0, l1, l2, l3, l4] (.int (t.A a x.toNatClampNeg) :: st) (yemb t) Q := gs_iald f_113_26 ha
theorem f_113_27 : ft 113 27 = some (53, .istore 4, []) := rfl
theorem s_113_27 {d : Nat} {σ : xS} {st : List Value} {Q : xR → xS → Prop} {l0 l1 l2 l3 l4 : Option Value} {x : Int32} : G d 113 27 [l0, l1, l2, l3, l4] (.int x :: st) σ Q ↔ G d 113 28 [l0, l1, l2, ykl l3, some (.int x)] st σ Q := by
  cases l3 with
  | none => exact gs_go f_113_27 rfl
  | some v => cases v <;> exact gs_go f_113_27 rfl
theorem f_113_28 : ft 113 28 = some (55, .iload 4, []) := rfl
theorem s_113_28 {d : Nat} {σ : xS} {st : List Value} {Q : xR → xS → Prop} {l0 l1 l2 l3 : Option Value} {x : Int32} : G d 113 28 [l0, l1, l2, l3, some (.int x)] st σ Q ↔ G d 113 29 [l0, l1, l2, l3, some (.int x)] (.int x :: st) σ Q := gs_go f_113_28 rfl
theorem f_113_29 : ft 113 29 = some (57, .ifCond .ne 30, [42]) := rfl
theorem s_113_29 {d : Nat} {σ : xS} {st : List Value} {Q : xR → xS → Prop} {l0 l1 l2 l3 l4 : Option Value} {x : Int32} : G d 113 29 [l0, l1, l2, l3, l4] (.int x :: st) σ Q ↔ if x ≠ 0 then G d 113 42 [l0, l1, l2, l3, l4] st σ Q else G d 113 30 [l0, l1, l2, l3, l4] st σ Q := gs_if f_113_29 rfl
theorem f_113_30 : ft 113 30 = some (60, .iload_n 2, []) := rfl
theorem s_113_30 {d : Nat} {σ : xS} {st : List Value} {Q : xR → xS → Prop} {l0 l1 l3 l4 : Option Value} {x : Int32} : G d 113 30 [l0, l1, some (.int x), l3, l4] st σ Q ↔ G d 113 31 [l0, l1, some (.int x), l3, l4] (.int x :: st) σ Q := gs_go f_113_30 rfl
theorem f_113_31 : ft 113 31 = some (61, .ifCond .eq 26, [42]) := rfl
theorem s_113_31 {d : Nat} {σ : xS} {st : List Value} {Q : xR → xS → Prop} {l0 l1 l2 l3 l4 : Option Value} {x : Int32} : G d 113 31 [l0, l1, l2, l3, l4] (.int x :: st) σ Q ↔ if x = 0 then G d 113 42 [l0, l1, l2, l3, l4] st σ Q else G d 113 32 [l0, l1, l2, l3, l4] st σ Q := gs_if f_113_31 rfl
theorem f_113_32 : ft 113 32 = some (64, .aload_n 0, []) := rfl
theorem s_113_32 {d : Nat} {σ : xS} {st : List Value} {Q : xR → xS → Prop} {l1 l2 l3 l4 : Option Value} {x : Nat} : G d 113 32 [some (.ref x), l1, l2, l3, l4] st σ Q ↔ G d 113 33 [some (.ref x), l1, l2, l3, l4] (.ref x :: st) σ Q := gs_go f_113_32 rfl
theorem f_113_33 : ft 113 33 = some (65, .getfield 26, [7, 2, 0, 318]) := rfl
theorem s_113_33 {d : Nat} {t : yT} {st : List Value} {Q : xR → xS → Prop} {l0 l1 l2 l3 l4 : Option Value} {a : Nat} (ho : yisO 7 a) : G d 113 33 [l0, l1, l2, l3, l4] (.ref a :: st) (yemb t) Q ↔ G d 113 34 [l0, l1, l2, l3, l4] (.ref 7 :: st) (yemb t) Q := gs_getf (c := 7) (j := 2) (q := .c 7) f_113_33 ho rfl
theorem f_113_34 : ft 113 34 = some (68, .invokevirtual 160, [37, 1, 0, 1206]) := rfl
theorem s_113_34 {d : Nat} {t : yT} {st : List Value} {Q : xR → xS → Prop} {l0 l1 l2 l3 l4 : Option Value} {a0 : Nat} (ho : yisO 4 a0) : G (d + 1) 113 34 [l0, l1, l2, l3, l4] (.ref a0 :: st) (yemb t) Q ↔ xcat st ≤ 8 ∧ Cl d 37 [.ref a0] (yemb t) (Gk (d + 1) 113 34 [l0, l1, l2, l3, l4] st Q) := gs_call f_113_34 ((xinv_call (i := 34) (n := 1206) (ls := [l0, l1, l2, l3, l4]) (kind := 0) (σ := yemb t) (by decide)).trans (xcall_vi [.ref a0] rfl rfl (show (1 : Nat) ≤ 4 by decide) rfl ho))
theorem f_113_35 : ft 113 35 = some (71, .invokestatic 142, [216, 1, 1, 1207]) := rfl
theorem s_113_35 {d : Nat} {σ : xS} {st : List Value} {Q : xR → xS → Prop} {l0 l1 l2 l3 l4 : Option Value} {a0 : Int64} : G (d + 1) 113 35 [l0, l1, l2, l3, l4] (.long a0 :: st) σ Q ↔ xcat st ≤ 8 ∧ Cl d 216 [.long a0] σ (Gk (d + 1) 113 35 [l0, l1, l2, l3, l4] st Q) := gs_call f_113_35 ((xinv_call (i := 35) (n := 1207) (ls := [l0, l1, l2, l3, l4]) (kind := 1) (σ := σ) (by decide)).trans (xcall_st [.long a0] rfl (by decide) (show (2 : Nat) ≤ 2 by decide)))
theorem f_113_36 : ft 113 36 = some (74, .bipush 10, []) := rfl
theorem s_113_36 {d : Nat} {σ : xS} {st : List Value} {Q : xR → xS → Prop} {l0 l1 l2 l3 l4 : Option Value} : G d 113 36 [l0, l1, l2, l3, l4] st σ Q ↔ G d 113 37 [l0, l1, l2, l3, l4] (.int (10) :: st) σ Q := gs_go f_113_36 rfl
theorem f_113_37 : ft 113 37 = some (76, .if_icmp .lt 11, [42]) := rfl
theorem s_113_37 {d : Nat} {σ : xS} {st : List Value} {Q : xR → xS → Prop} {l0 l1 l2 l3 l4 : Option Value} {x y : Int32} : G d 113 37 [l0, l1, l2, l3, l4] (.int y :: .int x :: st) σ Q ↔ if x < y then G d 113 42 [l0, l1, l2, l3, l4] st σ Q else G d 113 38 [l0, l1, l2, l3, l4] st σ Q := gs_if f_113_37 rfl
theorem f_113_38 : ft 113 38 = some (79, .new 280, [1, 2, 1208, 282]) := rfl
theorem s_113_38 {d : Nat} {σ : xS} {ls : xL} {st : List Value} {Q : xR → xS → Prop} : G d 113 38 ls st σ Q ↔ (xcat st ≤ 8 ∧ σ.2.1.1 < 900000) ∧ Q (.inr 2) (xbump (.inr 2) σ) := gs_thr (e := 2) f_113_38
theorem f_113_39 : ft 113 39 = some (82, .dup, []) := rfl
theorem s_113_39 {d : Nat} {σ : xS} {st : List Value} {Q : xR → xS → Prop} {l0 l1 l2 l3 l4 : Option Value} {x : Nat} : G d 113 39 [l0, l1, l2, l3, l4] (.ref x :: st) σ Q ↔ G d 113 40 [l0, l1, l2, l3, l4] (.ref x :: .ref x :: st) σ Q := gs_go f_113_39 rfl
theorem s_113_39i {d : Nat} {σ : xS} {st : List Value} {Q : xR → xS → Prop} {l0 l1 l2 l3 l4 : Option Value} {x : Int32} : G d 113 39 [l0, l1, l2, l3, l4] (.int x :: st) σ Q ↔ G d 113 40 [l0, l1, l2, l3, l4] (.int x :: .int x :: st) σ Q := gs_go f_113_39 rfl
theorem f_113_40 : ft 113 40 = some (83, .invokespecial 282, [0, 1, 23, 1217]) := rfl
theorem f_113_41 : ft 113 41 = some (86, .athrow, []) := rfl
theorem f_113_42 : ft 113 42 = some (87, .aload_n 0, []) := rfl
theorem s_113_42 {d : Nat} {σ : xS} {st : List Value} {Q : xR → xS → Prop} {l1 l2 l3 l4 : Option Value} {x : Nat} : G d 113 42 [some (.ref x), l1, l2, l3, l4] st σ Q ↔ G d 113 43 [some (.ref x), l1, l2, l3, l4] (.ref x :: st) σ Q := gs_go f_113_42 rfl
theorem f_113_43 : ft 113 43 = some (88, .getfield 54, [7, 6, 0, 322]) := rfl
theorem s_113_43 {d : Nat} {t : yT} {st : List Value} {Q : xR → xS → Prop} {l0 l1 l2 l3 l4 : Option Value} {a : Nat} (ho : yisO 7 a) : G d 113 43 [l0, l1, l2, l3, l4] (.ref a :: st) (yemb t) Q ↔ G d 113 44 [l0, l1, l2, l3, l4] (.ref 38 :: st) (yemb t) Q := gs_getf (c := 7) (j := 6) (q := .c 38) f_113_43 ho rfl
theorem f_113_44 : ft 113 44 = some (91, .aload_n 0, []) := rfl
theorem s_113_44 {d : Nat} {σ : xS} {st : List Value} {Q : xR → xS → Prop} {l1 l2 l3 l4 : Option Value} {x : Nat} : G d 113 44 [some (.ref x), l1, l2, l3, l4] st σ Q ↔ G d 113 45 [some (.ref x), l1, l2, l3, l4] (.ref x :: st) σ Q := gs_go f_113_44 rfl
theorem f_113_45 : ft 113 45 = some (92, .getfield 26, [7, 2, 0, 318]) := rfl
theorem s_113_45 {d : Nat} {t : yT} {st : List Value} {Q : xR → xS → Prop} {l0 l1 l2 l3 l4 : Option Value} {a : Nat} (ho : yisO 7 a) : G d 113 45 [l0, l1, l2, l3, l4] (.ref a :: st) (yemb t) Q ↔ G d 113 46 [l0, l1, l2, l3, l4] (.ref 7 :: st) (yemb t) Q := gs_getf (c := 7) (j := 2) (q := .c 7) f_113_45 ho rfl
theorem f_113_46 : ft 113 46 = some (95, .invokevirtual 105, [6, 2, 0, 891]) := rfl
theorem s_113_46 {d : Nat} {t : yT} {st : List Value} {Q : xR → xS → Prop} {l0 l1 l2 l3 l4 : Option Value} {a0 : Nat} {a1 : Nat} (ho : yisO 1 a0) : G (d + 1) 113 46 [l0, l1, l2, l3, l4] (.ref a1 :: .ref a0 :: st) (yemb t) Q ↔ xcat st ≤ 8 ∧ Cl d 6 [.ref a0, .ref a1] (yemb t) (Gk (d + 1) 113 46 [l0, l1, l2, l3, l4] st Q) := gs_call f_113_46 ((xinv_call (i := 46) (n := 891) (ls := [l0, l1, l2, l3, l4]) (kind := 0) (σ := yemb t) (by decide)).trans (xcall_vi [.ref a1, .ref a0] rfl rfl (show (2 : Nat) ≤ 2 by decide) rfl ho))
theorem f_113_47 : ft 113 47 = some (98, .aload_n 0, []) := rfl
theorem s_113_47 {d : Nat} {σ : xS} {st : List Value} {Q : xR → xS → Prop} {l1 l2 l3 l4 : Option Value} {x : Nat} : G d 113 47 [some (.ref x), l1, l2, l3, l4] st σ Q ↔ G d 113 48 [some (.ref x), l1, l2, l3, l4] (.ref x :: st) σ Q := gs_go f_113_47 rfl
theorem f_113_48 : ft 113 48 = some (99, .getfield 26, [7, 2, 0, 318]) := rfl
theorem s_113_48 {d : Nat} {t : yT} {st : List Value} {Q : xR → xS → Prop} {l0 l1 l2 l3 l4 : Option Value} {a : Nat} (ho : yisO 7 a) : G d 113 48 [l0, l1, l2, l3, l4] (.ref a :: st) (yemb t) Q ↔ G d 113 49 [l0, l1, l2, l3, l4] (.ref 7 :: st) (yemb t) Q := gs_getf (c := 7) (j := 2) (q := .c 7) f_113_48 ho rfl
theorem f_113_49 : ft 113 49 = some (102, .iload_n 1, []) := rfl
theorem s_113_49 {d : Nat} {σ : xS} {st : List Value} {Q : xR → xS → Prop} {l0 l2 l3 l4 : Option Value} {x : Int32} : G d 113 49 [l0, some (.int x), l2, l3, l4] st σ Q ↔ G d 113 50 [l0, some (.int x), l2, l3, l4] (.int x :: st) σ Q := gs_go f_113_49 rfl
theorem f_113_50 : ft 113 50 = some (103, .iload_n 2, []) := rfl
theorem s_113_50 {d : Nat} {σ : xS} {st : List Value} {Q : xR → xS → Prop} {l0 l1 l3 l4 : Option Value} {x : Int32} : G d 113 50 [l0, l1, some (.int x), l3, l4] st σ Q ↔ G d 113 51 [l0, l1, some (.int x), l3, l4] (.int x :: st) σ Q := gs_go f_113_50 rfl
theorem f_113_51 : ft 113 51 = some (104, .iload_n 3, []) := rfl
theorem s_113_51 {d : Nat} {σ : xS} {st : List Value} {Q : xR → xS → Prop} {l0 l1 l2 l4 : Option Value} {x : Int32} : G d 113 51 [l0, l1, l2, some (.int x), l4] st σ Q ↔ G d 113 52 [l0, l1, l2, some (.int x), l4] (.int x :: st) σ Q := gs_go f_113_51 rfl
theorem f_113_52 : ft 113 52 = some (105, .invokevirtual 283, [36, 4, 0, 1223]) := rfl
theorem s_113_52 {d : Nat} {t : yT} {st : List Value} {Q : xR → xS → Prop} {l0 l1 l2 l3 l4 : Option Value} {a0 : Nat} {a1 : Int32} {a2 : Int32} {a3 : Int32} (ho : yisO 4 a0) : G (d + 1) 113 52 [l0, l1, l2, l3, l4] (.int a3 :: .int a2 :: .int a1 :: .ref a0 :: st) (yemb t) Q ↔ xcat st ≤ 8 ∧ Cl d 36 [.ref a0, .int a1, .int a2, .int a3] (yemb t) (Gk (d + 1) 113 52 [l0, l1, l2, l3, l4] st Q) := gs_call f_113_52 ((xinv_call (i := 52) (n := 1223) (ls := [l0, l1, l2, l3, l4]) (kind := 0) (σ := yemb t) (by decide)).trans (xcall_vi [.int a3, .int a2, .int a1, .ref a0] rfl rfl (show (4 : Nat) ≤ 4 by decide) rfl ho))
theorem f_113_53 : ft 113 53 = some (108, .iload 4, []) := rfl
theorem s_113_53 {d : Nat} {σ : xS} {st : List Value} {Q : xR → xS → Prop} {l0 l1 l2 l3 : Option Value} {x : Int32} : G d 113 53 [l0, l1, l2, l3, some (.int x)] st σ Q ↔ G d 113 54 [l0, l1, l2, l3, some (.int x)] (.int x :: st) σ Q := gs_go f_113_53 rfl
theorem f_113_54 : ft 113 54 = some (110, .ireturn, []) := rfl
theorem s_113_54 {d : Nat} {σ : xS} {ls : xL} {Q : xR → xS → Prop} {x : Int32} : G d 113 54 ls [.int x] σ Q ↔ Q (.inl (some (.int x))) σ := gs_reti f_113_54 rfl
theorem f_114_0 : ft 114 0 = some (0, .aload_n 0, []) := rfl
theorem s_114_0 {d : Nat} {σ : xS} {st : List Value} {Q : xR → xS → Prop} {l1 l2 l3 : Option Value} {x : Nat} : G d 114 0 [some (.ref x), l1, l2, l3] st σ Q ↔ G d 114 1 [some (.ref x), l1, l2, l3] (.ref x :: st) σ Q := gs_go f_114_0 rfl
theorem f_114_1 : ft 114 1 = some (1, .getfield 26, [7, 2, 0, 318]) := rfl
theorem s_114_1 {d : Nat} {t : yT} {st : List Value} {Q : xR → xS → Prop} {l0 l1 l2 l3 : Option Value} {a : Nat} (ho : yisO 7 a) : G d 114 1 [l0, l1, l2, l3] (.ref a :: st) (yemb t) Q ↔ G d 114 2 [l0, l1, l2, l3] (.ref 7 :: st) (yemb t) Q := gs_getf (c := 7) (j := 2) (q := .c 7) f_114_1 ho rfl
theorem f_114_2 : ft 114 2 = some (4, .iload_n 1, []) := rfl
theorem s_114_2 {d : Nat} {σ : xS} {st : List Value} {Q : xR → xS → Prop} {l0 l2 l3 : Option Value} {x : Int32} : G d 114 2 [l0, some (.int x), l2, l3] st σ Q ↔ G d 114 3 [l0, some (.int x), l2, l3] (.int x :: st) σ Q := gs_go f_114_2 rfl
theorem f_114_3 : ft 114 3 = some (5, .invokevirtual 202, [33, 2, 0, 1232]) := rfl
theorem s_114_3 {d : Nat} {t : yT} {st : List Value} {Q : xR → xS → Prop} {l0 l1 l2 l3 : Option Value} {a0 : Nat} {a1 : Int32} (ho : yisO 4 a0) : G (d + 1) 114 3 [l0, l1, l2, l3] (.int a1 :: .ref a0 :: st) (yemb t) Q ↔ xcat st ≤ 8 ∧ Cl d 33 [.ref a0, .int a1] (yemb t) (Gk (d + 1) 114 3 [l0, l1, l2, l3] st Q) := gs_call f_114_3 ((xinv_call (i := 3) (n := 1232) (ls := [l0, l1, l2, l3]) (kind := 0) (σ := yemb t) (by decide)).trans (xcall_vi [.int a1, .ref a0] rfl rfl (show (2 : Nat) ≤ 2 by decide) rfl ho))
theorem f_114_4 : ft 114 4 = some (8, .ifCond .ne 11, [9]) := rfl
theorem s_114_4 {d : Nat} {σ : xS} {st : List Value} {Q : xR → xS → Prop} {l0 l1 l2 l3 : Option Value} {x : Int32} : G d 114 4 [l0, l1, l2, l3] (.int x :: st) σ Q ↔ if x ≠ 0 then G d 114 9 [l0, l1, l2, l3] st σ Q else G d 114 5 [l0, l1, l2, l3] st σ Q := gs_if f_114_4 rfl
theorem f_114_5 : ft 114 5 = some (11, .new 170, [1, 1, 1073, 172]) := rfl
theorem s_114_5 {d : Nat} {σ : xS} {ls : xL} {st : List Value} {Q : xR → xS → Prop} : G d 114 5 ls st σ Q ↔ (xcat st ≤ 8 ∧ σ.2.1.1 < 900000) ∧ Q (.inr 1) (xbump (.inr 1) σ) := gs_thr (e := 1) f_114_5
theorem f_114_6 : ft 114 6 = some (14, .dup, []) := rfl
theorem s_114_6 {d : Nat} {σ : xS} {st : List Value} {Q : xR → xS → Prop} {l0 l1 l2 l3 : Option Value} {x : Nat} : G d 114 6 [l0, l1, l2, l3] (.ref x :: st) σ Q ↔ G d 114 7 [l0, l1, l2, l3] (.ref x :: .ref x :: st) σ Q := gs_go f_114_6 rfl
theorem s_114_6i {d : Nat} {σ : xS} {st : List Value} {Q : xR → xS → Prop} {l0 l1 l2 l3 : Option Value} {x : Int32} : G d 114 6 [l0, l1, l2, l3] (.int x :: st) σ Q ↔ G d 114 7 [l0, l1, l2, l3] (.int x :: .int x :: st) σ Q := gs_go f_114_6 rfl
theorem f_114_7 : ft 114 7 = some (15, .invokespecial 172, [0, 1, 23, 1082]) := rfl
theorem f_114_8 : ft 114 8 = some (18, .athrow, []) := rfl
theorem f_114_9 : ft 114 9 = some (19, .iload_n 2, []) := rfl
theorem s_114_9 {d : Nat} {σ : xS} {st : List Value} {Q : xR → xS → Prop} {l0 l1 l3 : Option Value} {x : Int32} : G d 114 9 [l0, l1, some (.int x), l3] st σ Q ↔ G d 114 10 [l0, l1, some (.int x), l3] (.int x :: st) σ Q := gs_go f_114_9 rfl
theorem f_114_10 : ft 114 10 = some (20, .ifCond .lt 10, [14]) := rfl
theorem s_114_10 {d : Nat} {σ : xS} {st : List Value} {Q : xR → xS → Prop} {l0 l1 l2 l3 : Option Value} {x : Int32} : G d 114 10 [l0, l1, l2, l3] (.int x :: st) σ Q ↔ if x < 0 then G d 114 14 [l0, l1, l2, l3] st σ Q else G d 114 11 [l0, l1, l2, l3] st σ Q := gs_if f_114_10 rfl
theorem f_114_11 : ft 114 11 = some (23, .iload_n 2, []) := rfl
theorem s_114_11 {d : Nat} {σ : xS} {st : List Value} {Q : xR → xS → Prop} {l0 l1 l3 : Option Value} {x : Int32} : G d 114 11 [l0, l1, some (.int x), l3] st σ Q ↔ G d 114 12 [l0, l1, some (.int x), l3] (.int x :: st) σ Q := gs_go f_114_11 rfl
theorem f_114_12 : ft 114 12 = some (24, .sipush 9999, []) := rfl
theorem s_114_12 {d : Nat} {σ : xS} {st : List Value} {Q : xR → xS → Prop} {l0 l1 l2 l3 : Option Value} : G d 114 12 [l0, l1, l2, l3] st σ Q ↔ G d 114 13 [l0, l1, l2, l3] (.int (9999) :: st) σ Q := gs_go f_114_12 rfl
theorem f_114_13 : ft 114 13 = some (27, .if_icmp .le 11, [18]) := rfl
theorem s_114_13 {d : Nat} {σ : xS} {st : List Value} {Q : xR → xS → Prop} {l0 l1 l2 l3 : Option Value} {x y : Int32} : G d 114 13 [l0, l1, l2, l3] (.int y :: .int x :: st) σ Q ↔ if x ≤ y then G d 114 18 [l0, l1, l2, l3] st σ Q else G d 114 14 [l0, l1, l2, l3] st σ Q := gs_if f_114_13 rfl
theorem f_114_14 : ft 114 14 = some (30, .new 86, [1, 0, 594, 88]) := rfl
theorem s_114_14 {d : Nat} {σ : xS} {ls : xL} {st : List Value} {Q : xR → xS → Prop} : G d 114 14 ls st σ Q ↔ (xcat st ≤ 8 ∧ σ.2.1.1 < 900000) ∧ Q (.inr 0) (xbump (.inr 0) σ) := gs_thr (e := 0) f_114_14
theorem f_114_15 : ft 114 15 = some (33, .dup, []) := rfl
theorem s_114_15 {d : Nat} {σ : xS} {st : List Value} {Q : xR → xS → Prop} {l0 l1 l2 l3 : Option Value} {x : Nat} : G d 114 15 [l0, l1, l2, l3] (.ref x :: st) σ Q ↔ G d 114 16 [l0, l1, l2, l3] (.ref x :: .ref x :: st) σ Q := gs_go f_114_15 rfl
theorem s_114_15i {d : Nat} {σ : xS} {st : List Value} {Q : xR → xS → Prop} {l0 l1 l2 l3 : Option Value} {x : Int32} : G d 114 15 [l0, l1, l2, l3] (.int x :: st) σ Q ↔ G d 114 16 [l0, l1, l2, l3] (.int x :: .int x :: st) σ Q := gs_go f_114_15 rfl
theorem f_114_16 : ft 114 16 = some (34, .invokespecial 88, [0, 1, 23, 636]) := rfl
theorem f_114_17 : ft 114 17 = some (37, .athrow, []) := rfl
theorem f_114_18 : ft 114 18 = some (38, .aload_n 0, []) := rfl
theorem s_114_18 {d : Nat} {σ : xS} {st : List Value} {Q : xR → xS → Prop} {l1 l2 l3 : Option Value} {x : Nat} : G d 114 18 [some (.ref x), l1, l2, l3] st σ Q ↔ G d 114 19 [some (.ref x), l1, l2, l3] (.ref x :: st) σ Q := gs_go f_114_18 rfl
theorem f_114_19 : ft 114 19 = some (39, .getfield 54, [7, 6, 0, 322]) := rfl
theorem s_114_19 {d : Nat} {t : yT} {st : List Value} {Q : xR → xS → Prop} {l0 l1 l2 l3 : Option Value} {a : Nat} (ho : yisO 7 a) : G d 114 19 [l0, l1, l2, l3] (.ref a :: st) (yemb t) Q ↔ G d 114 20 [l0, l1, l2, l3] (.ref 38 :: st) (yemb t) Q := gs_getf (c := 7) (j := 6) (q := .c 38) f_114_19 ho rfl
theorem f_114_20 : ft 114 20 = some (42, .aload_n 0, []) := rfl
theorem s_114_20 {d : Nat} {σ : xS} {st : List Value} {Q : xR → xS → Prop} {l1 l2 l3 : Option Value} {x : Nat} : G d 114 20 [some (.ref x), l1, l2, l3] st σ Q ↔ G d 114 21 [some (.ref x), l1, l2, l3] (.ref x :: st) σ Q := gs_go f_114_20 rfl
theorem f_114_21 : ft 114 21 = some (43, .getfield 26, [7, 2, 0, 318]) := rfl
theorem s_114_21 {d : Nat} {t : yT} {st : List Value} {Q : xR → xS → Prop} {l0 l1 l2 l3 : Option Value} {a : Nat} (ho : yisO 7 a) : G d 114 21 [l0, l1, l2, l3] (.ref a :: st) (yemb t) Q ↔ G d 114 22 [l0, l1, l2, l3] (.ref 7 :: st) (yemb t) Q := gs_getf (c := 7) (j := 2) (q := .c 7) f_114_21 ho rfl
theorem f_114_22 : ft 114 22 = some (46, .invokevirtual 105, [6, 2, 0, 891]) := rfl
theorem s_114_22 {d : Nat} {t : yT} {st : List Value} {Q : xR → xS → Prop} {l0 l1 l2 l3 : Option Value} {a0 : Nat} {a1 : Nat} (ho : yisO 1 a0) : G (d + 1) 114 22 [l0, l1, l2, l3] (.ref a1 :: .ref a0 :: st) (yemb t) Q ↔ xcat st ≤ 8 ∧ Cl d 6 [.ref a0, .ref a1] (yemb t) (Gk (d + 1) 114 22 [l0, l1, l2, l3] st Q) := gs_call f_114_22 ((xinv_call (i := 22) (n := 891) (ls := [l0, l1, l2, l3]) (kind := 0) (σ := yemb t) (by decide)).trans (xcall_vi [.ref a1, .ref a0] rfl rfl (show (2 : Nat) ≤ 2 by decide) rfl ho))
theorem f_114_23 : ft 114 23 = some (49, .aload_n 0, []) := rfl
theorem s_114_23 {d : Nat} {σ : xS} {st : List Value} {Q : xR → xS → Prop} {l1 l2 l3 : Option Value} {x : Nat} : G d 114 23 [some (.ref x), l1, l2, l3] st σ Q ↔ G d 114 24 [some (.ref x), l1, l2, l3] (.ref x :: st) σ Q := gs_go f_114_23 rfl
theorem f_114_24 : ft 114 24 = some (50, .getfield 26, [7, 2, 0, 318]) := rfl
theorem s_114_24 {d : Nat} {t : yT} {st : List Value} {Q : xR → xS → Prop} {l0 l1 l2 l3 : Option Value} {a : Nat} (ho : yisO 7 a) : G d 114 24 [l0, l1, l2, l3] (.ref a :: st) (yemb t) Q ↔ G d 114 25 [l0, l1, l2, l3] (.ref 7 :: st) (yemb t) Q := gs_getf (c := 7) (j := 2) (q := .c 7) f_114_24 ho rfl
theorem f_114_25 : ft 114 25 = some (53, .getfield 208, [4, 8, 1, 159]) := rfl
theorem s_114_25 {d : Nat} {t : yT} {st : List Value} {Q : xR → xS → Prop} {l0 l1 l2 l3 : Option Value} {a : Nat} (ho : yisO 4 a) : G d 114 25 [l0, l1, l2, l3] (.ref a :: st) (yemb t) Q ↔ G d 114 26 [l0, l1, l2, l3] (.ref (a + 9) :: st) (yemb t) Q := gs_getf (c := 4) (j := 8) (q := .c (a + 9)) f_114_25 ho rfl
theorem f_114_26 : ft 114 26 = some (56, .iload_n 1, []) := rfl
theorem s_114_26 {d : Nat} {σ : xS} {st : List Value} {Q : xR → xS → Prop} {l0 l2 l3 : Option Value} {x : Int32} : G d 114 26 [l0, some (.int x), l2, l3] st σ Q ↔ G d 114 27 [l0, some (.int x), l2, l3] (.int x :: st) σ Q := gs_go f_114_26 rfl
theorem f_114_27 : ft 114 27 = some (57, .iaload, []) := rfl
theorem s_114_27 {d : Nat} {t : yT} {st : List Value} {Q : xR → xS → Prop} {l0 l1 l2 l3 : Option Value} {a : Nat} {x : Int32} (ha : yA 0 a) : G d 114 27 [l0, l1, l2, l3] (.int x :: .ref a :: st) (yemb t) Q ↔ yix x (yn a) ∧ G d 114 28 [l0, l1, l2, l3] (.int (t.A a x.toNatClampNeg) :: st) (yemb t) Q := gs_iald f_114_27 ha
theorem f_114_28 : ft 114 28 = some (58, .istore_n 3, []) := rfl
theorem s_114_28 {d : Nat} {σ : xS} {st : List Value} {Q : xR → xS → Prop} {l0 l1 l2 l3 : Option Value} {x : Int32} : G d 114 28 [l0, l1, l2, l3] (.int x :: st) σ Q ↔ G d 114 29 [l0, l1, ykl l2, some (.int x)] st σ Q := by
  cases l2 with
  | none => exact gs_go f_114_28 rfl
  | some v => cases v <;> exact gs_go f_114_28 rfl
theorem f_114_29 : ft 114 29 = some (59, .aload_n 0, []) := rfl
theorem s_114_29 {d : Nat} {σ : xS} {st : List Value} {Q : xR → xS → Prop} {l1 l2 l3 : Option Value} {x : Nat} : G d 114 29 [some (.ref x), l1, l2, l3] st σ Q ↔ G d 114 30 [some (.ref x), l1, l2, l3] (.ref x :: st) σ Q := gs_go f_114_29 rfl
theorem f_114_30 : ft 114 30 = some (60, .getfield 26, [7, 2, 0, 318]) := rfl
theorem s_114_30 {d : Nat} {t : yT} {st : List Value} {Q : xR → xS → Prop} {l0 l1 l2 l3 : Option Value} {a : Nat} (ho : yisO 7 a) : G d 114 30 [l0, l1, l2, l3] (.ref a :: st) (yemb t) Q ↔ G d 114 31 [l0, l1, l2, l3] (.ref 7 :: st) (yemb t) Q := gs_getf (c := 7) (j := 2) (q := .c 7) f_114_30 ho rfl
theorem f_114_31 : ft 114 31 = some (63, .getfield 208, [4, 8, 1, 159]) := rfl
theorem s_114_31 {d : Nat} {t : yT} {st : List Value} {Q : xR → xS → Prop} {l0 l1 l2 l3 : Option Value} {a : Nat} (ho : yisO 4 a) : G d 114 31 [l0, l1, l2, l3] (.ref a :: st) (yemb t) Q ↔ G d 114 32 [l0, l1, l2, l3] (.ref (a + 9) :: st) (yemb t) Q := gs_getf (c := 4) (j := 8) (q := .c (a + 9)) f_114_31 ho rfl
theorem f_114_32 : ft 114 32 = some (66, .iload_n 1, []) := rfl
theorem s_114_32 {d : Nat} {σ : xS} {st : List Value} {Q : xR → xS → Prop} {l0 l2 l3 : Option Value} {x : Int32} : G d 114 32 [l0, some (.int x), l2, l3] st σ Q ↔ G d 114 33 [l0, some (.int x), l2, l3] (.int x :: st) σ Q := gs_go f_114_32 rfl
theorem f_114_33 : ft 114 33 = some (67, .iload_n 2, []) := rfl
theorem s_114_33 {d : Nat} {σ : xS} {st : List Value} {Q : xR → xS → Prop} {l0 l1 l3 : Option Value} {x : Int32} : G d 114 33 [l0, l1, some (.int x), l3] st σ Q ↔ G d 114 34 [l0, l1, some (.int x), l3] (.int x :: st) σ Q := gs_go f_114_33 rfl
theorem f_114_34 : ft 114 34 = some (68, .iastore, []) := rfl
theorem s_114_34 {d : Nat} {t : yT} {st : List Value} {Q : xR → xS → Prop} {l0 l1 l2 l3 : Option Value} {a : Nat} {x v : Int32} (ha : yA 0 a) : G d 114 34 [l0, l1, l2, l3] (.int v :: .int x :: .ref a :: st) (yemb t) Q ↔ yix x (yn a) ∧ G d 114 35 [l0, l1, l2, l3] st (yemb (t.s1 a x.toNatClampNeg v)) Q := gs_iast f_114_34 ha
theorem f_114_35 : ft 114 35 = some (69, .iload_n 3, []) := rfl
theorem s_114_35 {d : Nat} {σ : xS} {st : List Value} {Q : xR → xS → Prop} {l0 l1 l2 : Option Value} {x : Int32} : G d 114 35 [l0, l1, l2, some (.int x)] st σ Q ↔ G d 114 36 [l0, l1, l2, some (.int x)] (.int x :: st) σ Q := gs_go f_114_35 rfl
theorem f_114_36 : ft 114 36 = some (70, .ireturn, []) := rfl
theorem s_114_36 {d : Nat} {σ : xS} {ls : xL} {Q : xR → xS → Prop} {x : Int32} : G d 114 36 ls [.int x] σ Q ↔ Q (.inl (some (.int x))) σ := gs_reti f_114_36 rfl
theorem f_115_0 : ft 115 0 = some (0, .iload_n 1, []) := rfl
theorem s_115_0 {d : Nat} {σ : xS} {st : List Value} {Q : xR → xS → Prop} {l0 : Option Value} {x : Int32} : G d 115 0 [l0, some (.int x)] st σ Q ↔ G d 115 1 [l0, some (.int x)] (.int x :: st) σ Q := gs_go f_115_0 rfl
theorem f_115_1 : ft 115 1 = some (1, .ifCond .lt 8, [5]) := rfl
theorem s_115_1 {d : Nat} {σ : xS} {st : List Value} {Q : xR → xS → Prop} {l0 l1 : Option Value} {x : Int32} : G d 115 1 [l0, l1] (.int x :: st) σ Q ↔ if x < 0 then G d 115 5 [l0, l1] st σ Q else G d 115 2 [l0, l1] st σ Q := gs_if f_115_1 rfl
theorem f_115_2 : ft 115 2 = some (4, .iload_n 1, []) := rfl
theorem s_115_2 {d : Nat} {σ : xS} {st : List Value} {Q : xR → xS → Prop} {l0 : Option Value} {x : Int32} : G d 115 2 [l0, some (.int x)] st σ Q ↔ G d 115 3 [l0, some (.int x)] (.int x :: st) σ Q := gs_go f_115_2 rfl
theorem f_115_3 : ft 115 3 = some (5, .iconst 2, []) := rfl
theorem s_115_3 {d : Nat} {σ : xS} {st : List Value} {Q : xR → xS → Prop} {l0 l1 : Option Value} : G d 115 3 [l0, l1] st σ Q ↔ G d 115 4 [l0, l1] (.int (2) :: st) σ Q := gs_go f_115_3 rfl
theorem f_115_4 : ft 115 4 = some (6, .if_icmp .lt 11, [9]) := rfl
theorem s_115_4 {d : Nat} {σ : xS} {st : List Value} {Q : xR → xS → Prop} {l0 l1 : Option Value} {x y : Int32} : G d 115 4 [l0, l1] (.int y :: .int x :: st) σ Q ↔ if x < y then G d 115 9 [l0, l1] st σ Q else G d 115 5 [l0, l1] st σ Q := gs_if f_115_4 rfl
theorem f_115_5 : ft 115 5 = some (9, .new 170, [1, 1, 1073, 172]) := rfl
theorem s_115_5 {d : Nat} {σ : xS} {ls : xL} {st : List Value} {Q : xR → xS → Prop} : G d 115 5 ls st σ Q ↔ (xcat st ≤ 8 ∧ σ.2.1.1 < 900000) ∧ Q (.inr 1) (xbump (.inr 1) σ) := gs_thr (e := 1) f_115_5
theorem f_115_6 : ft 115 6 = some (12, .dup, []) := rfl
theorem s_115_6 {d : Nat} {σ : xS} {st : List Value} {Q : xR → xS → Prop} {l0 l1 : Option Value} {x : Nat} : G d 115 6 [l0, l1] (.ref x :: st) σ Q ↔ G d 115 7 [l0, l1] (.ref x :: .ref x :: st) σ Q := gs_go f_115_6 rfl
theorem s_115_6i {d : Nat} {σ : xS} {st : List Value} {Q : xR → xS → Prop} {l0 l1 : Option Value} {x : Int32} : G d 115 6 [l0, l1] (.int x :: st) σ Q ↔ G d 115 7 [l0, l1] (.int x :: .int x :: st) σ Q := gs_go f_115_6 rfl
theorem f_115_7 : ft 115 7 = some (13, .invokespecial 172, [0, 1, 23, 1082]) := rfl
theorem f_115_8 : ft 115 8 = some (16, .athrow, []) := rfl
theorem f_115_9 : ft 115 9 = some (17, .iload_n 1, []) := rfl
theorem s_115_9 {d : Nat} {σ : xS} {st : List Value} {Q : xR → xS → Prop} {l0 : Option Value} {x : Int32} : G d 115 9 [l0, some (.int x)] st σ Q ↔ G d 115 10 [l0, some (.int x)] (.int x :: st) σ Q := gs_go f_115_9 rfl
theorem f_115_10 : ft 115 10 = some (18, .ifCond .ne 22, [20]) := rfl
theorem s_115_10 {d : Nat} {σ : xS} {st : List Value} {Q : xR → xS → Prop} {l0 l1 : Option Value} {x : Int32} : G d 115 10 [l0, l1] (.int x :: st) σ Q ↔ if x ≠ 0 then G d 115 20 [l0, l1] st σ Q else G d 115 11 [l0, l1] st σ Q := gs_if f_115_10 rfl
theorem f_115_11 : ft 115 11 = some (21, .aload_n 0, []) := rfl
theorem s_115_11 {d : Nat} {σ : xS} {st : List Value} {Q : xR → xS → Prop} {l1 : Option Value} {x : Nat} : G d 115 11 [some (.ref x), l1] st σ Q ↔ G d 115 12 [some (.ref x), l1] (.ref x :: st) σ Q := gs_go f_115_11 rfl
theorem f_115_12 : ft 115 12 = some (22, .getfield 58, [7, 7, 0, 323]) := rfl
theorem s_115_12 {d : Nat} {t : yT} {st : List Value} {Q : xR → xS → Prop} {l0 l1 : Option Value} {a : Nat} (ho : yisO 7 a) : G d 115 12 [l0, l1] (.ref a :: st) (yemb t) Q ↔ G d 115 13 [l0, l1] (.ref 136 :: st) (yemb t) Q := gs_getf (c := 7) (j := 7) (q := .c 136) f_115_12 ho rfl
theorem f_115_13 : ft 115 13 = some (25, .aload_n 0, []) := rfl
theorem s_115_13 {d : Nat} {σ : xS} {st : List Value} {Q : xR → xS → Prop} {l1 : Option Value} {x : Nat} : G d 115 13 [some (.ref x), l1] st σ Q ↔ G d 115 14 [some (.ref x), l1] (.ref x :: st) σ Q := gs_go f_115_13 rfl
theorem f_115_14 : ft 115 14 = some (26, .getfield 26, [7, 2, 0, 318]) := rfl
theorem s_115_14 {d : Nat} {t : yT} {st : List Value} {Q : xR → xS → Prop} {l0 l1 : Option Value} {a : Nat} (ho : yisO 7 a) : G d 115 14 [l0, l1] (.ref a :: st) (yemb t) Q ↔ G d 115 15 [l0, l1] (.ref 7 :: st) (yemb t) Q := gs_getf (c := 7) (j := 2) (q := .c 7) f_115_14 ho rfl
theorem f_115_15 : ft 115 15 = some (29, .invokevirtual 109, [31, 2, 0, 896]) := rfl
theorem s_115_15 {d : Nat} {t : yT} {st : List Value} {Q : xR → xS → Prop} {l0 l1 : Option Value} {a0 : Nat} {a1 : Nat} (ho : yisO 4 a0) : G (d + 1) 115 15 [l0, l1] (.ref a1 :: .ref a0 :: st) (yemb t) Q ↔ xcat st ≤ 8 ∧ Cl d 31 [.ref a0, .ref a1] (yemb t) (Gk (d + 1) 115 15 [l0, l1] st Q) := gs_call f_115_15 ((xinv_call (i := 15) (n := 896) (ls := [l0, l1]) (kind := 0) (σ := yemb t) (by decide)).trans (xcall_vi [.ref a1, .ref a0] rfl rfl (show (2 : Nat) ≤ 2 by decide) rfl ho))
theorem f_115_16 : ft 115 16 = some (32, .aload_n 0, []) := rfl
theorem s_115_16 {d : Nat} {σ : xS} {st : List Value} {Q : xR → xS → Prop} {l1 : Option Value} {x : Nat} : G d 115 16 [some (.ref x), l1] st σ Q ↔ G d 115 17 [some (.ref x), l1] (.ref x :: st) σ Q := gs_go f_115_16 rfl
theorem f_115_17 : ft 115 17 = some (33, .iconst 1, []) := rfl
theorem s_115_17 {d : Nat} {σ : xS} {st : List Value} {Q : xR → xS → Prop} {l0 l1 : Option Value} : G d 115 17 [l0, l1] st σ Q ↔ G d 115 18 [l0, l1] (.int (1) :: st) σ Q := gs_go f_115_17 rfl
theorem f_115_18 : ft 115 18 = some (34, .putfield 64, [7, 9, 0, 325]) := rfl
theorem s_115_18 {d : Nat} {t : yT} {st : List Value} {Q : xR → xS → Prop} {l0 l1 : Option Value} {a : Nat} {x : Int32} (hb : ybo x) (ho : yisO 7 a) : G d 115 18 [l0, l1] (.int x :: .ref a :: st) (yemb t) Q ↔ G d 115 19 [l0, l1] st (yemb (t.s1 a 9 x)) Q := gs_putI (c := 7) (j := 9) f_115_18 (fun _ => rfl) hb (yfb hb) ho
theorem f_115_19 : ft 115 19 = some (37, .goto 19, [28]) := rfl
theorem s_115_19 {d : Nat} {σ : xS} {st : List Value} {Q : xR → xS → Prop} {l0 l1 : Option Value} : G d 115 19 [l0, l1] st σ Q ↔ G d 115 28 [l0, l1] st σ Q := gs_go f_115_19 rfl
theorem f_115_20 : ft 115 20 = some (40, .aload_n 0, []) := rfl
theorem s_115_20 {d : Nat} {σ : xS} {st : List Value} {Q : xR → xS → Prop} {l1 : Option Value} {x : Nat} : G d 115 20 [some (.ref x), l1] st σ Q ↔ G d 115 21 [some (.ref x), l1] (.ref x :: st) σ Q := gs_go f_115_20 rfl
theorem f_115_21 : ft 115 21 = some (41, .getfield 61, [7, 8, 0, 324]) := rfl
theorem s_115_21 {d : Nat} {t : yT} {st : List Value} {Q : xR → xS → Prop} {l0 l1 : Option Value} {a : Nat} (ho : yisO 7 a) : G d 115 21 [l0, l1] (.ref a :: st) (yemb t) Q ↔ G d 115 22 [l0, l1] (.ref 148 :: st) (yemb t) Q := gs_getf (c := 7) (j := 8) (q := .c 148) f_115_21 ho rfl
theorem f_115_22 : ft 115 22 = some (44, .aload_n 0, []) := rfl
theorem s_115_22 {d : Nat} {σ : xS} {st : List Value} {Q : xR → xS → Prop} {l1 : Option Value} {x : Nat} : G d 115 22 [some (.ref x), l1] st σ Q ↔ G d 115 23 [some (.ref x), l1] (.ref x :: st) σ Q := gs_go f_115_22 rfl
theorem f_115_23 : ft 115 23 = some (45, .getfield 26, [7, 2, 0, 318]) := rfl
theorem s_115_23 {d : Nat} {t : yT} {st : List Value} {Q : xR → xS → Prop} {l0 l1 : Option Value} {a : Nat} (ho : yisO 7 a) : G d 115 23 [l0, l1] (.ref a :: st) (yemb t) Q ↔ G d 115 24 [l0, l1] (.ref 7 :: st) (yemb t) Q := gs_getf (c := 7) (j := 2) (q := .c 7) f_115_23 ho rfl
theorem f_115_24 : ft 115 24 = some (48, .invokevirtual 109, [31, 2, 0, 896]) := rfl
theorem s_115_24 {d : Nat} {t : yT} {st : List Value} {Q : xR → xS → Prop} {l0 l1 : Option Value} {a0 : Nat} {a1 : Nat} (ho : yisO 4 a0) : G (d + 1) 115 24 [l0, l1] (.ref a1 :: .ref a0 :: st) (yemb t) Q ↔ xcat st ≤ 8 ∧ Cl d 31 [.ref a0, .ref a1] (yemb t) (Gk (d + 1) 115 24 [l0, l1] st Q) := gs_call f_115_24 ((xinv_call (i := 24) (n := 896) (ls := [l0, l1]) (kind := 0) (σ := yemb t) (by decide)).trans (xcall_vi [.ref a1, .ref a0] rfl rfl (show (2 : Nat) ≤ 2 by decide) rfl ho))
theorem f_115_25 : ft 115 25 = some (51, .aload_n 0, []) := rfl
theorem s_115_25 {d : Nat} {σ : xS} {st : List Value} {Q : xR → xS → Prop} {l1 : Option Value} {x : Nat} : G d 115 25 [some (.ref x), l1] st σ Q ↔ G d 115 26 [some (.ref x), l1] (.ref x :: st) σ Q := gs_go f_115_25 rfl
theorem f_115_26 : ft 115 26 = some (52, .iconst 1, []) := rfl
theorem s_115_26 {d : Nat} {σ : xS} {st : List Value} {Q : xR → xS → Prop} {l0 l1 : Option Value} : G d 115 26 [l0, l1] st σ Q ↔ G d 115 27 [l0, l1] (.int (1) :: st) σ Q := gs_go f_115_26 rfl
theorem f_115_27 : ft 115 27 = some (53, .putfield 68, [7, 10, 0, 326]) := rfl
theorem s_115_27 {d : Nat} {t : yT} {st : List Value} {Q : xR → xS → Prop} {l0 l1 : Option Value} {a : Nat} {x : Int32} (hb : ybo x) (ho : yisO 7 a) : G d 115 27 [l0, l1] (.int x :: .ref a :: st) (yemb t) Q ↔ G d 115 28 [l0, l1] st (yemb (t.s1 a 10 x)) Q := gs_putI (c := 7) (j := 10) f_115_27 (fun _ => rfl) hb (yfb hb) ho
theorem f_115_28 : ft 115 28 = some (56, .aload_n 0, []) := rfl
theorem s_115_28 {d : Nat} {σ : xS} {st : List Value} {Q : xR → xS → Prop} {l1 : Option Value} {x : Nat} : G d 115 28 [some (.ref x), l1] st σ Q ↔ G d 115 29 [some (.ref x), l1] (.ref x :: st) σ Q := gs_go f_115_28 rfl
theorem f_115_29 : ft 115 29 = some (57, .getfield 26, [7, 2, 0, 318]) := rfl
theorem s_115_29 {d : Nat} {t : yT} {st : List Value} {Q : xR → xS → Prop} {l0 l1 : Option Value} {a : Nat} (ho : yisO 7 a) : G d 115 29 [l0, l1] (.ref a :: st) (yemb t) Q ↔ G d 115 30 [l0, l1] (.ref 7 :: st) (yemb t) Q := gs_getf (c := 7) (j := 2) (q := .c 7) f_115_29 ho rfl
theorem f_115_30 : ft 115 30 = some (60, .invokevirtual 151, [59, 1, 0, 1122]) := rfl
theorem s_115_30 {d : Nat} {t : yT} {st : List Value} {Q : xR → xS → Prop} {l0 l1 : Option Value} {a0 : Nat} (ho : yisO 4 a0) : G (d + 1) 115 30 [l0, l1] (.ref a0 :: st) (yemb t) Q ↔ xcat st ≤ 8 ∧ Cl d 59 [.ref a0] (yemb t) (Gk (d + 1) 115 30 [l0, l1] st Q) := gs_call f_115_30 ((xinv_call (i := 30) (n := 1122) (ls := [l0, l1]) (kind := 0) (σ := yemb t) (by decide)).trans (xcall_vi [.ref a0] rfl rfl (show (1 : Nat) ≤ 3 by decide) rfl ho))
theorem f_115_31 : ft 115 31 = some (63, .ireturn, []) := rfl
theorem s_115_31 {d : Nat} {σ : xS} {ls : xL} {Q : xR → xS → Prop} {x : Int32} : G d 115 31 ls [.int x] σ Q ↔ Q (.inl (some (.int x))) σ := gs_reti f_115_31 rfl
theorem f_116_0 : ft 116 0 = some (0, .iload_n 1, []) := rfl
theorem s_116_0 {d : Nat} {σ : xS} {st : List Value} {Q : xR → xS → Prop} {l0 : Option Value} {x : Int32} : G d 116 0 [l0, some (.int x)] st σ Q ↔ G d 116 1 [l0, some (.int x)] (.int x :: st) σ Q := gs_go f_116_0 rfl
theorem f_116_1 : ft 116 1 = some (1, .ifCond .lt 8, [5]) := rfl
theorem s_116_1 {d : Nat} {σ : xS} {st : List Value} {Q : xR → xS → Prop} {l0 l1 : Option Value} {x : Int32} : G d 116 1 [l0, l1] (.int x :: st) σ Q ↔ if x < 0 then G d 116 5 [l0, l1] st σ Q else G d 116 2 [l0, l1] st σ Q := gs_if f_116_1 rfl
theorem f_116_2 : ft 116 2 = some (4, .iload_n 1, []) := rfl
theorem s_116_2 {d : Nat} {σ : xS} {st : List Value} {Q : xR → xS → Prop} {l0 : Option Value} {x : Int32} : G d 116 2 [l0, some (.int x)] st σ Q ↔ G d 116 3 [l0, some (.int x)] (.int x :: st) σ Q := gs_go f_116_2 rfl
theorem f_116_3 : ft 116 3 = some (5, .iconst 2, []) := rfl
theorem s_116_3 {d : Nat} {σ : xS} {st : List Value} {Q : xR → xS → Prop} {l0 l1 : Option Value} : G d 116 3 [l0, l1] st σ Q ↔ G d 116 4 [l0, l1] (.int (2) :: st) σ Q := gs_go f_116_3 rfl
theorem f_116_4 : ft 116 4 = some (6, .if_icmp .lt 11, [9]) := rfl
theorem s_116_4 {d : Nat} {σ : xS} {st : List Value} {Q : xR → xS → Prop} {l0 l1 : Option Value} {x y : Int32} : G d 116 4 [l0, l1] (.int y :: .int x :: st) σ Q ↔ if x < y then G d 116 9 [l0, l1] st σ Q else G d 116 5 [l0, l1] st σ Q := gs_if f_116_4 rfl
theorem f_116_5 : ft 116 5 = some (9, .new 170, [1, 1, 1073, 172]) := rfl
theorem s_116_5 {d : Nat} {σ : xS} {ls : xL} {st : List Value} {Q : xR → xS → Prop} : G d 116 5 ls st σ Q ↔ (xcat st ≤ 8 ∧ σ.2.1.1 < 900000) ∧ Q (.inr 1) (xbump (.inr 1) σ) := gs_thr (e := 1) f_116_5
theorem f_116_6 : ft 116 6 = some (12, .dup, []) := rfl
theorem s_116_6 {d : Nat} {σ : xS} {st : List Value} {Q : xR → xS → Prop} {l0 l1 : Option Value} {x : Nat} : G d 116 6 [l0, l1] (.ref x :: st) σ Q ↔ G d 116 7 [l0, l1] (.ref x :: .ref x :: st) σ Q := gs_go f_116_6 rfl
theorem s_116_6i {d : Nat} {σ : xS} {st : List Value} {Q : xR → xS → Prop} {l0 l1 : Option Value} {x : Int32} : G d 116 6 [l0, l1] (.int x :: st) σ Q ↔ G d 116 7 [l0, l1] (.int x :: .int x :: st) σ Q := gs_go f_116_6 rfl
theorem f_116_7 : ft 116 7 = some (13, .invokespecial 172, [0, 1, 23, 1082]) := rfl
theorem f_116_8 : ft 116 8 = some (16, .athrow, []) := rfl
theorem f_116_9 : ft 116 9 = some (17, .iload_n 1, []) := rfl
theorem s_116_9 {d : Nat} {σ : xS} {st : List Value} {Q : xR → xS → Prop} {l0 : Option Value} {x : Int32} : G d 116 9 [l0, some (.int x)] st σ Q ↔ G d 116 10 [l0, some (.int x)] (.int x :: st) σ Q := gs_go f_116_9 rfl
theorem f_116_10 : ft 116 10 = some (18, .ifCond .ne 13, [15]) := rfl
theorem s_116_10 {d : Nat} {σ : xS} {st : List Value} {Q : xR → xS → Prop} {l0 l1 : Option Value} {x : Int32} : G d 116 10 [l0, l1] (.int x :: st) σ Q ↔ if x ≠ 0 then G d 116 15 [l0, l1] st σ Q else G d 116 11 [l0, l1] st σ Q := gs_if f_116_10 rfl
theorem f_116_11 : ft 116 11 = some (21, .aload_n 0, []) := rfl
theorem s_116_11 {d : Nat} {σ : xS} {st : List Value} {Q : xR → xS → Prop} {l1 : Option Value} {x : Nat} : G d 116 11 [some (.ref x), l1] st σ Q ↔ G d 116 12 [some (.ref x), l1] (.ref x :: st) σ Q := gs_go f_116_11 rfl
theorem f_116_12 : ft 116 12 = some (22, .getfield 64, [7, 9, 0, 325]) := rfl
theorem s_116_12 {d : Nat} {t : yT} {st : List Value} {Q : xR → xS → Prop} {l0 l1 : Option Value} {a : Nat} (ho : yisO 7 a) : G d 116 12 [l0, l1] (.ref a :: st) (yemb t) Q ↔ G d 116 13 [l0, l1] (.int (t.A a 9) :: st) (yemb t) Q := gs_getf (c := 7) (j := 9) (q := .i) f_116_12 ho rfl
theorem f_116_13 : ft 116 13 = some (25, .ifCond .ne 21, [22]) := rfl
theorem s_116_13 {d : Nat} {σ : xS} {st : List Value} {Q : xR → xS → Prop} {l0 l1 : Option Value} {x : Int32} : G d 116 13 [l0, l1] (.int x :: st) σ Q ↔ if x ≠ 0 then G d 116 22 [l0, l1] st σ Q else G d 116 14 [l0, l1] st σ Q := gs_if f_116_13 rfl
theorem f_116_14 : ft 116 14 = some (28, .goto 10, [18]) := rfl
theorem s_116_14 {d : Nat} {σ : xS} {st : List Value} {Q : xR → xS → Prop} {l0 l1 : Option Value} : G d 116 14 [l0, l1] st σ Q ↔ G d 116 18 [l0, l1] st σ Q := gs_go f_116_14 rfl
theorem f_116_15 : ft 116 15 = some (31, .aload_n 0, []) := rfl
theorem s_116_15 {d : Nat} {σ : xS} {st : List Value} {Q : xR → xS → Prop} {l1 : Option Value} {x : Nat} : G d 116 15 [some (.ref x), l1] st σ Q ↔ G d 116 16 [some (.ref x), l1] (.ref x :: st) σ Q := gs_go f_116_15 rfl
theorem f_116_16 : ft 116 16 = some (32, .getfield 68, [7, 10, 0, 326]) := rfl
theorem s_116_16 {d : Nat} {t : yT} {st : List Value} {Q : xR → xS → Prop} {l0 l1 : Option Value} {a : Nat} (ho : yisO 7 a) : G d 116 16 [l0, l1] (.ref a :: st) (yemb t) Q ↔ G d 116 17 [l0, l1] (.int (t.A a 10) :: st) (yemb t) Q := gs_getf (c := 7) (j := 10) (q := .i) f_116_16 ho rfl
theorem f_116_17 : ft 116 17 = some (35, .ifCond .ne 11, [22]) := rfl
theorem s_116_17 {d : Nat} {σ : xS} {st : List Value} {Q : xR → xS → Prop} {l0 l1 : Option Value} {x : Int32} : G d 116 17 [l0, l1] (.int x :: st) σ Q ↔ if x ≠ 0 then G d 116 22 [l0, l1] st σ Q else G d 116 18 [l0, l1] st σ Q := gs_if f_116_17 rfl
theorem f_116_18 : ft 116 18 = some (38, .new 287, [1, 3, 1251, 289]) := rfl
theorem s_116_18 {d : Nat} {σ : xS} {ls : xL} {st : List Value} {Q : xR → xS → Prop} : G d 116 18 ls st σ Q ↔ (xcat st ≤ 8 ∧ σ.2.1.1 < 900000) ∧ Q (.inr 3) (xbump (.inr 3) σ) := gs_thr (e := 3) f_116_18
theorem f_116_19 : ft 116 19 = some (41, .dup, []) := rfl
theorem s_116_19 {d : Nat} {σ : xS} {st : List Value} {Q : xR → xS → Prop} {l0 l1 : Option Value} {x : Nat} : G d 116 19 [l0, l1] (.ref x :: st) σ Q ↔ G d 116 20 [l0, l1] (.ref x :: .ref x :: st) σ Q := gs_go f_116_19 rfl
theorem s_116_19i {d : Nat} {σ : xS} {st : List Value} {Q : xR → xS → Prop} {l0 l1 : Option Value} {x : Int32} : G d 116 19 [l0, l1] (.int x :: st) σ Q ↔ G d 116 20 [l0, l1] (.int x :: .int x :: st) σ Q := gs_go f_116_19 rfl
theorem f_116_20 : ft 116 20 = some (42, .invokespecial 289, [0, 1, 23, 1260]) := rfl
theorem f_116_21 : ft 116 21 = some (45, .athrow, []) := rfl
theorem f_116_22 : ft 116 22 = some (46, .aload_n 0, []) := rfl
theorem s_116_22 {d : Nat} {σ : xS} {st : List Value} {Q : xR → xS → Prop} {l1 : Option Value} {x : Nat} : G d 116 22 [some (.ref x), l1] st σ Q ↔ G d 116 23 [some (.ref x), l1] (.ref x :: st) σ Q := gs_go f_116_22 rfl
theorem f_116_23 : ft 116 23 = some (47, .getfield 54, [7, 6, 0, 322]) := rfl
theorem s_116_23 {d : Nat} {t : yT} {st : List Value} {Q : xR → xS → Prop} {l0 l1 : Option Value} {a : Nat} (ho : yisO 7 a) : G d 116 23 [l0, l1] (.ref a :: st) (yemb t) Q ↔ G d 116 24 [l0, l1] (.ref 38 :: st) (yemb t) Q := gs_getf (c := 7) (j := 6) (q := .c 38) f_116_23 ho rfl
theorem f_116_24 : ft 116 24 = some (50, .aload_n 0, []) := rfl
theorem s_116_24 {d : Nat} {σ : xS} {st : List Value} {Q : xR → xS → Prop} {l1 : Option Value} {x : Nat} : G d 116 24 [some (.ref x), l1] st σ Q ↔ G d 116 25 [some (.ref x), l1] (.ref x :: st) σ Q := gs_go f_116_24 rfl
theorem f_116_25 : ft 116 25 = some (51, .getfield 26, [7, 2, 0, 318]) := rfl
theorem s_116_25 {d : Nat} {t : yT} {st : List Value} {Q : xR → xS → Prop} {l0 l1 : Option Value} {a : Nat} (ho : yisO 7 a) : G d 116 25 [l0, l1] (.ref a :: st) (yemb t) Q ↔ G d 116 26 [l0, l1] (.ref 7 :: st) (yemb t) Q := gs_getf (c := 7) (j := 2) (q := .c 7) f_116_25 ho rfl
theorem f_116_26 : ft 116 26 = some (54, .invokevirtual 105, [6, 2, 0, 891]) := rfl
theorem s_116_26 {d : Nat} {t : yT} {st : List Value} {Q : xR → xS → Prop} {l0 l1 : Option Value} {a0 : Nat} {a1 : Nat} (ho : yisO 1 a0) : G (d + 1) 116 26 [l0, l1] (.ref a1 :: .ref a0 :: st) (yemb t) Q ↔ xcat st ≤ 8 ∧ Cl d 6 [.ref a0, .ref a1] (yemb t) (Gk (d + 1) 116 26 [l0, l1] st Q) := gs_call f_116_26 ((xinv_call (i := 26) (n := 891) (ls := [l0, l1]) (kind := 0) (σ := yemb t) (by decide)).trans (xcall_vi [.ref a1, .ref a0] rfl rfl (show (2 : Nat) ≤ 2 by decide) rfl ho))
theorem f_116_27 : ft 116 27 = some (57, .aload_n 0, []) := rfl
theorem s_116_27 {d : Nat} {σ : xS} {st : List Value} {Q : xR → xS → Prop} {l1 : Option Value} {x : Nat} : G d 116 27 [some (.ref x), l1] st σ Q ↔ G d 116 28 [some (.ref x), l1] (.ref x :: st) σ Q := gs_go f_116_27 rfl
theorem f_116_28 : ft 116 28 = some (58, .getfield 26, [7, 2, 0, 318]) := rfl
theorem s_116_28 {d : Nat} {t : yT} {st : List Value} {Q : xR → xS → Prop} {l0 l1 : Option Value} {a : Nat} (ho : yisO 7 a) : G d 116 28 [l0, l1] (.ref a :: st) (yemb t) Q ↔ G d 116 29 [l0, l1] (.ref 7 :: st) (yemb t) Q := gs_getf (c := 7) (j := 2) (q := .c 7) f_116_28 ho rfl
theorem f_116_29 : ft 116 29 = some (61, .iload_n 1, []) := rfl
theorem s_116_29 {d : Nat} {σ : xS} {st : List Value} {Q : xR → xS → Prop} {l0 : Option Value} {x : Int32} : G d 116 29 [l0, some (.int x)] st σ Q ↔ G d 116 30 [l0, some (.int x)] (.int x :: st) σ Q := gs_go f_116_29 rfl
theorem f_116_30 : ft 116 30 = some (62, .ifCond .ne 10, [34]) := rfl
theorem s_116_30 {d : Nat} {σ : xS} {st : List Value} {Q : xR → xS → Prop} {l0 l1 : Option Value} {x : Int32} : G d 116 30 [l0, l1] (.int x :: st) σ Q ↔ if x ≠ 0 then G d 116 34 [l0, l1] st σ Q else G d 116 31 [l0, l1] st σ Q := gs_if f_116_30 rfl
theorem f_116_31 : ft 116 31 = some (65, .aload_n 0, []) := rfl
theorem s_116_31 {d : Nat} {σ : xS} {st : List Value} {Q : xR → xS → Prop} {l1 : Option Value} {x : Nat} : G d 116 31 [some (.ref x), l1] st σ Q ↔ G d 116 32 [some (.ref x), l1] (.ref x :: st) σ Q := gs_go f_116_31 rfl
theorem f_116_32 : ft 116 32 = some (66, .getfield 58, [7, 7, 0, 323]) := rfl
theorem s_116_32 {d : Nat} {t : yT} {st : List Value} {Q : xR → xS → Prop} {l0 l1 : Option Value} {a : Nat} (ho : yisO 7 a) : G d 116 32 [l0, l1] (.ref a :: st) (yemb t) Q ↔ G d 116 33 [l0, l1] (.ref 136 :: st) (yemb t) Q := gs_getf (c := 7) (j := 7) (q := .c 136) f_116_32 ho rfl
theorem f_116_33 : ft 116 33 = some (69, .goto 7, [36]) := rfl
theorem s_116_33 {d : Nat} {σ : xS} {st : List Value} {Q : xR → xS → Prop} {l0 l1 : Option Value} : G d 116 33 [l0, l1] st σ Q ↔ G d 116 36 [l0, l1] st σ Q := gs_go f_116_33 rfl
theorem f_116_34 : ft 116 34 = some (72, .aload_n 0, []) := rfl
theorem s_116_34 {d : Nat} {σ : xS} {st : List Value} {Q : xR → xS → Prop} {l1 : Option Value} {x : Nat} : G d 116 34 [some (.ref x), l1] st σ Q ↔ G d 116 35 [some (.ref x), l1] (.ref x :: st) σ Q := gs_go f_116_34 rfl
theorem f_116_35 : ft 116 35 = some (73, .getfield 61, [7, 8, 0, 324]) := rfl
theorem s_116_35 {d : Nat} {t : yT} {st : List Value} {Q : xR → xS → Prop} {l0 l1 : Option Value} {a : Nat} (ho : yisO 7 a) : G d 116 35 [l0, l1] (.ref a :: st) (yemb t) Q ↔ G d 116 36 [l0, l1] (.ref 148 :: st) (yemb t) Q := gs_getf (c := 7) (j := 8) (q := .c 148) f_116_35 ho rfl
theorem f_116_36 : ft 116 36 = some (76, .invokevirtual 109, [31, 2, 0, 896]) := rfl
theorem s_116_36 {d : Nat} {t : yT} {st : List Value} {Q : xR → xS → Prop} {l0 l1 : Option Value} {a0 : Nat} {a1 : Nat} (ho : yisO 4 a0) : G (d + 1) 116 36 [l0, l1] (.ref a1 :: .ref a0 :: st) (yemb t) Q ↔ xcat st ≤ 8 ∧ Cl d 31 [.ref a0, .ref a1] (yemb t) (Gk (d + 1) 116 36 [l0, l1] st Q) := gs_call f_116_36 ((xinv_call (i := 36) (n := 896) (ls := [l0, l1]) (kind := 0) (σ := yemb t) (by decide)).trans (xcall_vi [.ref a1, .ref a0] rfl rfl (show (2 : Nat) ≤ 2 by decide) rfl ho))
theorem f_116_37 : ft 116 37 = some (79, .aload_n 0, []) := rfl
theorem s_116_37 {d : Nat} {σ : xS} {st : List Value} {Q : xR → xS → Prop} {l1 : Option Value} {x : Nat} : G d 116 37 [some (.ref x), l1] st σ Q ↔ G d 116 38 [some (.ref x), l1] (.ref x :: st) σ Q := gs_go f_116_37 rfl
theorem f_116_38 : ft 116 38 = some (80, .getfield 26, [7, 2, 0, 318]) := rfl
theorem s_116_38 {d : Nat} {t : yT} {st : List Value} {Q : xR → xS → Prop} {l0 l1 : Option Value} {a : Nat} (ho : yisO 7 a) : G d 116 38 [l0, l1] (.ref a :: st) (yemb t) Q ↔ G d 116 39 [l0, l1] (.ref 7 :: st) (yemb t) Q := gs_getf (c := 7) (j := 2) (q := .c 7) f_116_38 ho rfl
theorem f_116_39 : ft 116 39 = some (83, .invokevirtual 151, [59, 1, 0, 1122]) := rfl
theorem s_116_39 {d : Nat} {t : yT} {st : List Value} {Q : xR → xS → Prop} {l0 l1 : Option Value} {a0 : Nat} (ho : yisO 4 a0) : G (d + 1) 116 39 [l0, l1] (.ref a0 :: st) (yemb t) Q ↔ xcat st ≤ 8 ∧ Cl d 59 [.ref a0] (yemb t) (Gk (d + 1) 116 39 [l0, l1] st Q) := gs_call f_116_39 ((xinv_call (i := 39) (n := 1122) (ls := [l0, l1]) (kind := 0) (σ := yemb t) (by decide)).trans (xcall_vi [.ref a0] rfl rfl (show (1 : Nat) ≤ 3 by decide) rfl ho))
theorem f_116_40 : ft 116 40 = some (86, .ireturn, []) := rfl
theorem s_116_40 {d : Nat} {σ : xS} {ls : xL} {Q : xR → xS → Prop} {x : Int32} : G d 116 40 ls [.int x] σ Q ↔ Q (.inl (some (.int x))) σ := gs_reti f_116_40 rfl
theorem f_117_0 : ft 117 0 = some (0, .aload_n 0, []) := rfl
theorem s_117_0 {d : Nat} {σ : xS} {st : List Value} {Q : xR → xS → Prop} {x : Nat} : G d 117 0 [some (.ref x)] st σ Q ↔ G d 117 1 [some (.ref x)] (.ref x :: st) σ Q := gs_go f_117_0 rfl
theorem f_117_1 : ft 117 1 = some (1, .getfield 54, [7, 6, 0, 322]) := rfl
theorem s_117_1 {d : Nat} {t : yT} {st : List Value} {Q : xR → xS → Prop} {l0 : Option Value} {a : Nat} (ho : yisO 7 a) : G d 117 1 [l0] (.ref a :: st) (yemb t) Q ↔ G d 117 2 [l0] (.ref 38 :: st) (yemb t) Q := gs_getf (c := 7) (j := 6) (q := .c 38) f_117_1 ho rfl
theorem f_117_2 : ft 117 2 = some (4, .aload_n 0, []) := rfl
theorem s_117_2 {d : Nat} {σ : xS} {st : List Value} {Q : xR → xS → Prop} {x : Nat} : G d 117 2 [some (.ref x)] st σ Q ↔ G d 117 3 [some (.ref x)] (.ref x :: st) σ Q := gs_go f_117_2 rfl
theorem f_117_3 : ft 117 3 = some (5, .getfield 26, [7, 2, 0, 318]) := rfl
theorem s_117_3 {d : Nat} {t : yT} {st : List Value} {Q : xR → xS → Prop} {l0 : Option Value} {a : Nat} (ho : yisO 7 a) : G d 117 3 [l0] (.ref a :: st) (yemb t) Q ↔ G d 117 4 [l0] (.ref 7 :: st) (yemb t) Q := gs_getf (c := 7) (j := 2) (q := .c 7) f_117_3 ho rfl
theorem f_117_4 : ft 117 4 = some (8, .invokevirtual 290, [7, 2, 0, 368]) := rfl
theorem s_117_4 {d : Nat} {t : yT} {st : List Value} {Q : xR → xS → Prop} {l0 : Option Value} {a0 : Nat} {a1 : Nat} (ho : yisO 1 a0) : G (d + 1) 117 4 [l0] (.ref a1 :: .ref a0 :: st) (yemb t) Q ↔ xcat st ≤ 8 ∧ Cl d 7 [.ref a0, .ref a1] (yemb t) (Gk (d + 1) 117 4 [l0] st Q) := gs_call f_117_4 ((xinv_call (i := 4) (n := 368) (ls := [l0]) (kind := 0) (σ := yemb t) (by decide)).trans (xcall_vi [.ref a1, .ref a0] rfl rfl (show (2 : Nat) ≤ 2 by decide) rfl ho))
theorem f_117_5 : ft 117 5 = some (11, .ireturn, []) := rfl
theorem s_117_5 {d : Nat} {σ : xS} {ls : xL} {Q : xR → xS → Prop} {x : Int32} : G d 117 5 ls [.int x] σ Q ↔ Q (.inl (some (.int x))) σ := gs_reti f_117_5 rfl
theorem f_118_0 : ft 118 0 = some (0, .lconst 0, []) := rfl
theorem s_118_0 {d : Nat} {σ : xS} {st : List Value} {Q : xR → xS → Prop} {l0 l1 l2 l3 l4 : Option Value} : G d 118 0 [l0, l1, l2, l3, l4] st σ Q ↔ G d 118 1 [l0, l1, l2, l3, l4] (.long (0) :: st) σ Q := gs_go f_118_0 rfl
theorem f_118_1 : ft 118 1 = some (1, .lstore_n 1, []) := rfl
theorem s_118_1 {d : Nat} {σ : xS} {st : List Value} {Q : xR → xS → Prop} {l0 l1 l2 l3 l4 : Option Value} {x : Int64} : G d 118 1 [l0, l1, l2, l3, l4] (.long x :: st) σ Q ↔ G d 118 2 [ykl l0, some (.long x), none, l3, l4] st σ Q := by
  cases l0 with
  | none => exact gs_go f_118_1 rfl
  | some v => cases v <;> exact gs_go f_118_1 rfl
theorem f_118_2 : ft 118 2 = some (2, .iconst 0, []) := rfl
theorem s_118_2 {d : Nat} {σ : xS} {st : List Value} {Q : xR → xS → Prop} {l0 l1 l2 l3 l4 : Option Value} : G d 118 2 [l0, l1, l2, l3, l4] st σ Q ↔ G d 118 3 [l0, l1, l2, l3, l4] (.int (0) :: st) σ Q := gs_go f_118_2 rfl
theorem f_118_3 : ft 118 3 = some (3, .istore_n 3, []) := rfl
theorem s_118_3 {d : Nat} {σ : xS} {st : List Value} {Q : xR → xS → Prop} {l0 l1 l2 l3 l4 : Option Value} {x : Int32} : G d 118 3 [l0, l1, l2, l3, l4] (.int x :: st) σ Q ↔ G d 118 4 [l0, l1, ykl l2, some (.int x), l4] st σ Q := by
  cases l2 with
  | none => exact gs_go f_118_3 rfl
  | some v => cases v <;> exact gs_go f_118_3 rfl
theorem f_118_4 : ft 118 4 = some (4, .iload_n 3, []) := rfl
theorem s_118_4 {d : Nat} {σ : xS} {st : List Value} {Q : xR → xS → Prop} {l0 l1 l2 l4 : Option Value} {x : Int32} : G d 118 4 [l0, l1, l2, some (.int x), l4] st σ Q ↔ G d 118 5 [l0, l1, l2, some (.int x), l4] (.int x :: st) σ Q := gs_go f_118_4 rfl
theorem f_118_5 : ft 118 5 = some (5, .bipush 9, []) := rfl
theorem s_118_5 {d : Nat} {σ : xS} {st : List Value} {Q : xR → xS → Prop} {l0 l1 l2 l3 l4 : Option Value} : G d 118 5 [l0, l1, l2, l3, l4] st σ Q ↔ G d 118 6 [l0, l1, l2, l3, l4] (.int (9) :: st) σ Q := gs_go f_118_5 rfl
theorem f_118_6 : ft 118 6 = some (7, .if_icmp .gt 22, [18]) := rfl
theorem s_118_6 {d : Nat} {σ : xS} {st : List Value} {Q : xR → xS → Prop} {l0 l1 l2 l3 l4 : Option Value} {x y : Int32} : G d 118 6 [l0, l1, l2, l3, l4] (.int y :: .int x :: st) σ Q ↔ if y < x then G d 118 18 [l0, l1, l2, l3, l4] st σ Q else G d 118 7 [l0, l1, l2, l3, l4] st σ Q := gs_if f_118_6 rfl
theorem f_118_7 : ft 118 7 = some (10, .ldc2_w 294, [31, 1617]) := rfl
theorem s_118_7 {d : Nat} {σ : xS} {st : List Value} {Q : xR → xS → Prop} {l0 l1 l2 l3 l4 : Option Value} : G d 118 7 [l0, l1, l2, l3, l4] st σ Q ↔ G d 118 8 [l0, l1, l2, l3, l4] (.long (31) :: st) σ Q := gs_go f_118_7 rfl
theorem f_118_8 : ft 118 8 = some (13, .lload_n 1, []) := rfl
theorem s_118_8 {d : Nat} {σ : xS} {st : List Value} {Q : xR → xS → Prop} {l0 l2 l3 l4 : Option Value} {x : Int64} : G d 118 8 [l0, some (.long x), l2, l3, l4] st σ Q ↔ G d 118 9 [l0, some (.long x), l2, l3, l4] (.long x :: st) σ Q := gs_go f_118_8 rfl
theorem f_118_9 : ft 118 9 = some (14, .lmul, []) := rfl
theorem s_118_9 {d : Nat} {σ : xS} {st : List Value} {Q : xR → xS → Prop} {l0 l1 l2 l3 l4 : Option Value} {x y : Int64} : G d 118 9 [l0, l1, l2, l3, l4] (.long y :: .long x :: st) σ Q ↔ G d 118 10 [l0, l1, l2, l3, l4] (.long (x * y) :: st) σ Q := gs_go f_118_9 rfl
theorem f_118_10 : ft 118 10 = some (15, .aload_n 0, []) := rfl
theorem s_118_10 {d : Nat} {σ : xS} {st : List Value} {Q : xR → xS → Prop} {l1 l2 l3 l4 : Option Value} {x : Nat} : G d 118 10 [some (.ref x), l1, l2, l3, l4] st σ Q ↔ G d 118 11 [some (.ref x), l1, l2, l3, l4] (.ref x :: st) σ Q := gs_go f_118_10 rfl
theorem f_118_11 : ft 118 11 = some (16, .iload_n 3, []) := rfl
theorem s_118_11 {d : Nat} {σ : xS} {st : List Value} {Q : xR → xS → Prop} {l0 l1 l2 l4 : Option Value} {x : Int32} : G d 118 11 [l0, l1, l2, some (.int x), l4] st σ Q ↔ G d 118 12 [l0, l1, l2, some (.int x), l4] (.int x :: st) σ Q := gs_go f_118_11 rfl
theorem f_118_12 : ft 118 12 = some (17, .invokevirtual 296, [99, 2, 0, 1618]) := rfl
theorem s_118_12 {d : Nat} {t : yT} {st : List Value} {Q : xR → xS → Prop} {l0 l1 l2 l3 l4 : Option Value} {a0 : Nat} {a1 : Int32} (ho : yisO 7 a0) : G (d + 1) 118 12 [l0, l1, l2, l3, l4] (.int a1 :: .ref a0 :: st) (yemb t) Q ↔ xcat st ≤ 8 ∧ Cl d 99 [.ref a0, .int a1] (yemb t) (Gk (d + 1) 118 12 [l0, l1, l2, l3, l4] st Q) := gs_call f_118_12 ((xinv_call (i := 12) (n := 1618) (ls := [l0, l1, l2, l3, l4]) (kind := 0) (σ := yemb t) (by decide)).trans (xcall_vi [.int a1, .ref a0] rfl rfl (show (2 : Nat) ≤ 2 by decide) rfl ho))
theorem f_118_13 : ft 118 13 = some (20, .i2l, []) := rfl
theorem s_118_13 {d : Nat} {σ : xS} {st : List Value} {Q : xR → xS → Prop} {l0 l1 l2 l3 l4 : Option Value} {x : Int32} : G d 118 13 [l0, l1, l2, l3, l4] (.int x :: st) σ Q ↔ G d 118 14 [l0, l1, l2, l3, l4] (.long x.toInt64 :: st) σ Q := gs_go f_118_13 rfl
theorem f_118_14 : ft 118 14 = some (21, .ladd, []) := rfl
theorem s_118_14 {d : Nat} {σ : xS} {st : List Value} {Q : xR → xS → Prop} {l0 l1 l2 l3 l4 : Option Value} {x y : Int64} : G d 118 14 [l0, l1, l2, l3, l4] (.long y :: .long x :: st) σ Q ↔ G d 118 15 [l0, l1, l2, l3, l4] (.long (x + y) :: st) σ Q := gs_go f_118_14 rfl
theorem f_118_15 : ft 118 15 = some (22, .lstore_n 1, []) := rfl
theorem s_118_15 {d : Nat} {σ : xS} {st : List Value} {Q : xR → xS → Prop} {l0 l1 l2 l3 l4 : Option Value} {x : Int64} : G d 118 15 [l0, l1, l2, l3, l4] (.long x :: st) σ Q ↔ G d 118 16 [ykl l0, some (.long x), none, l3, l4] st σ Q := by
  cases l0 with
  | none => exact gs_go f_118_15 rfl
  | some v => cases v <;> exact gs_go f_118_15 rfl
theorem f_118_16 : ft 118 16 = some (23, .iinc 3 1, []) := rfl
theorem s_118_16 {d : Nat} {σ : xS} {st : List Value} {Q : xR → xS → Prop} {l0 l1 l2 l4 : Option Value} {x : Int32} : G d 118 16 [l0, l1, l2, some (.int x), l4] st σ Q ↔ G d 118 17 [l0, l1, ykl l2, some (.int (x + 1)), l4] st σ Q := by
  cases l2 with
  | none => exact gs_go f_118_16 rfl
  | some v => cases v <;> exact gs_go f_118_16 rfl
theorem f_118_17 : ft 118 17 = some (26, .goto (-22), [4]) := rfl
theorem s_118_17 {d : Nat} {σ : xS} {st : List Value} {Q : xR → xS → Prop} {l0 l1 l2 l3 l4 : Option Value} : G d 118 17 [l0, l1, l2, l3, l4] st σ Q ↔ G d 118 4 [l0, l1, l2, l3, l4] st σ Q := gs_go f_118_17 rfl
theorem f_118_18 : ft 118 18 = some (29, .iconst 0, []) := rfl
theorem s_118_18 {d : Nat} {σ : xS} {st : List Value} {Q : xR → xS → Prop} {l0 l1 l2 l3 l4 : Option Value} : G d 118 18 [l0, l1, l2, l3, l4] st σ Q ↔ G d 118 19 [l0, l1, l2, l3, l4] (.int (0) :: st) σ Q := gs_go f_118_18 rfl
theorem f_118_19 : ft 118 19 = some (30, .istore_n 3, []) := rfl
theorem s_118_19 {d : Nat} {σ : xS} {st : List Value} {Q : xR → xS → Prop} {l0 l1 l2 l3 l4 : Option Value} {x : Int32} : G d 118 19 [l0, l1, l2, l3, l4] (.int x :: st) σ Q ↔ G d 118 20 [l0, l1, ykl l2, some (.int x), l4] st σ Q := by
  cases l2 with
  | none => exact gs_go f_118_19 rfl
  | some v => cases v <;> exact gs_go f_118_19 rfl
theorem f_118_20 : ft 118 20 = some (31, .iload_n 3, []) := rfl
theorem s_118_20 {d : Nat} {σ : xS} {st : List Value} {Q : xR → xS → Prop} {l0 l1 l2 l4 : Option Value} {x : Int32} : G d 118 20 [l0, l1, l2, some (.int x), l4] st σ Q ↔ G d 118 21 [l0, l1, l2, some (.int x), l4] (.int x :: st) σ Q := gs_go f_118_20 rfl
theorem f_118_21 : ft 118 21 = some (32, .aload_n 0, []) := rfl
theorem s_118_21 {d : Nat} {σ : xS} {st : List Value} {Q : xR → xS → Prop} {l1 l2 l3 l4 : Option Value} {x : Nat} : G d 118 21 [some (.ref x), l1, l2, l3, l4] st σ Q ↔ G d 118 22 [some (.ref x), l1, l2, l3, l4] (.ref x :: st) σ Q := gs_go f_118_21 rfl
theorem f_118_22 : ft 118 22 = some (33, .getfield 26, [7, 2, 0, 318]) := rfl
theorem s_118_22 {d : Nat} {t : yT} {st : List Value} {Q : xR → xS → Prop} {l0 l1 l2 l3 l4 : Option Value} {a : Nat} (ho : yisO 7 a) : G d 118 22 [l0, l1, l2, l3, l4] (.ref a :: st) (yemb t) Q ↔ G d 118 23 [l0, l1, l2, l3, l4] (.ref 7 :: st) (yemb t) Q := gs_getf (c := 7) (j := 2) (q := .c 7) f_118_22 ho rfl
theorem f_118_23 : ft 118 23 = some (36, .getfield 112, [4, 9, 1, 161]) := rfl
theorem s_118_23 {d : Nat} {t : yT} {st : List Value} {Q : xR → xS → Prop} {l0 l1 l2 l3 l4 : Option Value} {a : Nat} (ho : yisO 4 a) : G d 118 23 [l0, l1, l2, l3, l4] (.ref a :: st) (yemb t) Q ↔ G d 118 24 [l0, l1, l2, l3, l4] (.int (t.A a 9) :: st) (yemb t) Q := gs_getf (c := 4) (j := 9) (q := .i) f_118_23 ho rfl
theorem f_118_24 : ft 118 24 = some (39, .if_icmp .ge 40, [44]) := rfl
theorem s_118_24 {d : Nat} {σ : xS} {st : List Value} {Q : xR → xS → Prop} {l0 l1 l2 l3 l4 : Option Value} {x y : Int32} : G d 118 24 [l0, l1, l2, l3, l4] (.int y :: .int x :: st) σ Q ↔ if y ≤ x then G d 118 44 [l0, l1, l2, l3, l4] st σ Q else G d 118 25 [l0, l1, l2, l3, l4] st σ Q := gs_if f_118_24 rfl
theorem f_118_25 : ft 118 25 = some (42, .iconst 0, []) := rfl
theorem s_118_25 {d : Nat} {σ : xS} {st : List Value} {Q : xR → xS → Prop} {l0 l1 l2 l3 l4 : Option Value} : G d 118 25 [l0, l1, l2, l3, l4] st σ Q ↔ G d 118 26 [l0, l1, l2, l3, l4] (.int (0) :: st) σ Q := gs_go f_118_25 rfl
theorem f_118_26 : ft 118 26 = some (43, .istore 4, []) := rfl
theorem s_118_26 {d : Nat} {σ : xS} {st : List Value} {Q : xR → xS → Prop} {l0 l1 l2 l3 l4 : Option Value} {x : Int32} : G d 118 26 [l0, l1, l2, l3, l4] (.int x :: st) σ Q ↔ G d 118 27 [l0, l1, l2, ykl l3, some (.int x)] st σ Q := by
  cases l3 with
  | none => exact gs_go f_118_26 rfl
  | some v => cases v <;> exact gs_go f_118_26 rfl
theorem f_118_27 : ft 118 27 = some (45, .iload 4, []) := rfl
theorem s_118_27 {d : Nat} {σ : xS} {st : List Value} {Q : xR → xS → Prop} {l0 l1 l2 l3 : Option Value} {x : Int32} : G d 118 27 [l0, l1, l2, l3, some (.int x)] st σ Q ↔ G d 118 28 [l0, l1, l2, l3, some (.int x)] (.int x :: st) σ Q := gs_go f_118_27 rfl
theorem f_118_28 : ft 118 28 = some (47, .bipush 8, []) := rfl
theorem s_118_28 {d : Nat} {σ : xS} {st : List Value} {Q : xR → xS → Prop} {l0 l1 l2 l3 l4 : Option Value} : G d 118 28 [l0, l1, l2, l3, l4] st σ Q ↔ G d 118 29 [l0, l1, l2, l3, l4] (.int (8) :: st) σ Q := gs_go f_118_28 rfl
theorem f_118_29 : ft 118 29 = some (49, .if_icmp .gt 24, [42]) := rfl
theorem s_118_29 {d : Nat} {σ : xS} {st : List Value} {Q : xR → xS → Prop} {l0 l1 l2 l3 l4 : Option Value} {x y : Int32} : G d 118 29 [l0, l1, l2, l3, l4] (.int y :: .int x :: st) σ Q ↔ if y < x then G d 118 42 [l0, l1, l2, l3, l4] st σ Q else G d 118 30 [l0, l1, l2, l3, l4] st σ Q := gs_if f_118_29 rfl
theorem f_118_30 : ft 118 30 = some (52, .ldc2_w 294, [31, 1617]) := rfl
theorem s_118_30 {d : Nat} {σ : xS} {st : List Value} {Q : xR → xS → Prop} {l0 l1 l2 l3 l4 : Option Value} : G d 118 30 [l0, l1, l2, l3, l4] st σ Q ↔ G d 118 31 [l0, l1, l2, l3, l4] (.long (31) :: st) σ Q := gs_go f_118_30 rfl
theorem f_118_31 : ft 118 31 = some (55, .lload_n 1, []) := rfl
theorem s_118_31 {d : Nat} {σ : xS} {st : List Value} {Q : xR → xS → Prop} {l0 l2 l3 l4 : Option Value} {x : Int64} : G d 118 31 [l0, some (.long x), l2, l3, l4] st σ Q ↔ G d 118 32 [l0, some (.long x), l2, l3, l4] (.long x :: st) σ Q := gs_go f_118_31 rfl
theorem f_118_32 : ft 118 32 = some (56, .lmul, []) := rfl
theorem s_118_32 {d : Nat} {σ : xS} {st : List Value} {Q : xR → xS → Prop} {l0 l1 l2 l3 l4 : Option Value} {x y : Int64} : G d 118 32 [l0, l1, l2, l3, l4] (.long y :: .long x :: st) σ Q ↔ G d 118 33 [l0, l1, l2, l3, l4] (.long (x * y) :: st) σ Q := gs_go f_118_32 rfl
theorem f_118_33 : ft 118 33 = some (57, .aload_n 0, []) := rfl
theorem s_118_33 {d : Nat} {σ : xS} {st : List Value} {Q : xR → xS → Prop} {l1 l2 l3 l4 : Option Value} {x : Nat} : G d 118 33 [some (.ref x), l1, l2, l3, l4] st σ Q ↔ G d 118 34 [some (.ref x), l1, l2, l3, l4] (.ref x :: st) σ Q := gs_go f_118_33 rfl
theorem f_118_34 : ft 118 34 = some (58, .iload_n 3, []) := rfl
theorem s_118_34 {d : Nat} {σ : xS} {st : List Value} {Q : xR → xS → Prop} {l0 l1 l2 l4 : Option Value} {x : Int32} : G d 118 34 [l0, l1, l2, some (.int x), l4] st σ Q ↔ G d 118 35 [l0, l1, l2, some (.int x), l4] (.int x :: st) σ Q := gs_go f_118_34 rfl
theorem f_118_35 : ft 118 35 = some (59, .iload 4, []) := rfl
theorem s_118_35 {d : Nat} {σ : xS} {st : List Value} {Q : xR → xS → Prop} {l0 l1 l2 l3 : Option Value} {x : Int32} : G d 118 35 [l0, l1, l2, l3, some (.int x)] st σ Q ↔ G d 118 36 [l0, l1, l2, l3, some (.int x)] (.int x :: st) σ Q := gs_go f_118_35 rfl
theorem f_118_36 : ft 118 36 = some (61, .invokevirtual 299, [100, 3, 0, 1624]) := rfl
theorem s_118_36 {d : Nat} {t : yT} {st : List Value} {Q : xR → xS → Prop} {l0 l1 l2 l3 l4 : Option Value} {a0 : Nat} {a1 : Int32} {a2 : Int32} (ho : yisO 7 a0) : G (d + 1) 118 36 [l0, l1, l2, l3, l4] (.int a2 :: .int a1 :: .ref a0 :: st) (yemb t) Q ↔ xcat st ≤ 8 ∧ Cl d 100 [.ref a0, .int a1, .int a2] (yemb t) (Gk (d + 1) 118 36 [l0, l1, l2, l3, l4] st Q) := gs_call f_118_36 ((xinv_call (i := 36) (n := 1624) (ls := [l0, l1, l2, l3, l4]) (kind := 0) (σ := yemb t) (by decide)).trans (xcall_vi [.int a2, .int a1, .ref a0] rfl rfl (show (3 : Nat) ≤ 3 by decide) rfl ho))
theorem f_118_37 : ft 118 37 = some (64, .i2l, []) := rfl
theorem s_118_37 {d : Nat} {σ : xS} {st : List Value} {Q : xR → xS → Prop} {l0 l1 l2 l3 l4 : Option Value} {x : Int32} : G d 118 37 [l0, l1, l2, l3, l4] (.int x :: st) σ Q ↔ G d 118 38 [l0, l1, l2, l3, l4] (.long x.toInt64 :: st) σ Q := gs_go f_118_37 rfl
theorem f_118_38 : ft 118 38 = some (65, .ladd, []) := rfl
theorem s_118_38 {d : Nat} {σ : xS} {st : List Value} {Q : xR → xS → Prop} {l0 l1 l2 l3 l4 : Option Value} {x y : Int64} : G d 118 38 [l0, l1, l2, l3, l4] (.long y :: .long x :: st) σ Q ↔ G d 118 39 [l0, l1, l2, l3, l4] (.long (x + y) :: st) σ Q := gs_go f_118_38 rfl
theorem f_118_39 : ft 118 39 = some (66, .lstore_n 1, []) := rfl
theorem s_118_39 {d : Nat} {σ : xS} {st : List Value} {Q : xR → xS → Prop} {l0 l1 l2 l3 l4 : Option Value} {x : Int64} : G d 118 39 [l0, l1, l2, l3, l4] (.long x :: st) σ Q ↔ G d 118 40 [ykl l0, some (.long x), none, l3, l4] st σ Q := by
  cases l0 with
  | none => exact gs_go f_118_39 rfl
  | some v => cases v <;> exact gs_go f_118_39 rfl
theorem f_118_40 : ft 118 40 = some (67, .iinc 4 1, []) := rfl
theorem s_118_40 {d : Nat} {σ : xS} {st : List Value} {Q : xR → xS → Prop} {l0 l1 l2 l3 : Option Value} {x : Int32} : G d 118 40 [l0, l1, l2, l3, some (.int x)] st σ Q ↔ G d 118 41 [l0, l1, l2, ykl l3, some (.int (x + 1))] st σ Q := by
  cases l3 with
  | none => exact gs_go f_118_40 rfl
  | some v => cases v <;> exact gs_go f_118_40 rfl
theorem f_118_41 : ft 118 41 = some (70, .goto (-25), [27]) := rfl
theorem s_118_41 {d : Nat} {σ : xS} {st : List Value} {Q : xR → xS → Prop} {l0 l1 l2 l3 l4 : Option Value} : G d 118 41 [l0, l1, l2, l3, l4] st σ Q ↔ G d 118 27 [l0, l1, l2, l3, l4] st σ Q := gs_go f_118_41 rfl
theorem f_118_42 : ft 118 42 = some (73, .iinc 3 1, []) := rfl
theorem s_118_42 {d : Nat} {σ : xS} {st : List Value} {Q : xR → xS → Prop} {l0 l1 l2 l4 : Option Value} {x : Int32} : G d 118 42 [l0, l1, l2, some (.int x), l4] st σ Q ↔ G d 118 43 [l0, l1, ykl l2, some (.int (x + 1)), l4] st σ Q := by
  cases l2 with
  | none => exact gs_go f_118_42 rfl
  | some v => cases v <;> exact gs_go f_118_42 rfl
theorem f_118_43 : ft 118 43 = some (76, .goto (-45), [20]) := rfl
theorem s_118_43 {d : Nat} {σ : xS} {st : List Value} {Q : xR → xS → Prop} {l0 l1 l2 l3 l4 : Option Value} : G d 118 43 [l0, l1, l2, l3, l4] st σ Q ↔ G d 118 20 [l0, l1, l2, l3, l4] st σ Q := gs_go f_118_43 rfl
theorem f_118_44 : ft 118 44 = some (79, .iconst 0, []) := rfl
theorem s_118_44 {d : Nat} {σ : xS} {st : List Value} {Q : xR → xS → Prop} {l0 l1 l2 l3 l4 : Option Value} : G d 118 44 [l0, l1, l2, l3, l4] st σ Q ↔ G d 118 45 [l0, l1, l2, l3, l4] (.int (0) :: st) σ Q := gs_go f_118_44 rfl
theorem f_118_45 : ft 118 45 = some (80, .istore_n 3, []) := rfl
theorem s_118_45 {d : Nat} {σ : xS} {st : List Value} {Q : xR → xS → Prop} {l0 l1 l2 l3 l4 : Option Value} {x : Int32} : G d 118 45 [l0, l1, l2, l3, l4] (.int x :: st) σ Q ↔ G d 118 46 [l0, l1, ykl l2, some (.int x), l4] st σ Q := by
  cases l2 with
  | none => exact gs_go f_118_45 rfl
  | some v => cases v <;> exact gs_go f_118_45 rfl
theorem f_118_46 : ft 118 46 = some (81, .iload_n 3, []) := rfl
theorem s_118_46 {d : Nat} {σ : xS} {st : List Value} {Q : xR → xS → Prop} {l0 l1 l2 l4 : Option Value} {x : Int32} : G d 118 46 [l0, l1, l2, some (.int x), l4] st σ Q ↔ G d 118 47 [l0, l1, l2, some (.int x), l4] (.int x :: st) σ Q := gs_go f_118_46 rfl
theorem f_118_47 : ft 118 47 = some (82, .aload_n 0, []) := rfl
theorem s_118_47 {d : Nat} {σ : xS} {st : List Value} {Q : xR → xS → Prop} {l1 l2 l3 l4 : Option Value} {x : Nat} : G d 118 47 [some (.ref x), l1, l2, l3, l4] st σ Q ↔ G d 118 48 [some (.ref x), l1, l2, l3, l4] (.ref x :: st) σ Q := gs_go f_118_47 rfl
theorem f_118_48 : ft 118 48 = some (83, .getfield 26, [7, 2, 0, 318]) := rfl
theorem s_118_48 {d : Nat} {t : yT} {st : List Value} {Q : xR → xS → Prop} {l0 l1 l2 l3 l4 : Option Value} {a : Nat} (ho : yisO 7 a) : G d 118 48 [l0, l1, l2, l3, l4] (.ref a :: st) (yemb t) Q ↔ G d 118 49 [l0, l1, l2, l3, l4] (.ref 7 :: st) (yemb t) Q := gs_getf (c := 7) (j := 2) (q := .c 7) f_118_48 ho rfl
theorem f_118_49 : ft 118 49 = some (86, .getfield 135, [4, 12, 1, 171]) := rfl
theorem s_118_49 {d : Nat} {t : yT} {st : List Value} {Q : xR → xS → Prop} {l0 l1 l2 l3 l4 : Option Value} {a : Nat} (ho : yisO 4 a) : G d 118 49 [l0, l1, l2, l3, l4] (.ref a :: st) (yemb t) Q ↔ G d 118 50 [l0, l1, l2, l3, l4] (.int (t.A a 12) :: st) (yemb t) Q := gs_getf (c := 4) (j := 12) (q := .i) f_118_49 ho rfl
theorem f_118_50 : ft 118 50 = some (89, .if_icmp .ge 39, [70]) := rfl
theorem s_118_50 {d : Nat} {σ : xS} {st : List Value} {Q : xR → xS → Prop} {l0 l1 l2 l3 l4 : Option Value} {x y : Int32} : G d 118 50 [l0, l1, l2, l3, l4] (.int y :: .int x :: st) σ Q ↔ if y ≤ x then G d 118 70 [l0, l1, l2, l3, l4] st σ Q else G d 118 51 [l0, l1, l2, l3, l4] st σ Q := gs_if f_118_50 rfl
theorem f_118_51 : ft 118 51 = some (92, .iconst 0, []) := rfl
theorem s_118_51 {d : Nat} {σ : xS} {st : List Value} {Q : xR → xS → Prop} {l0 l1 l2 l3 l4 : Option Value} : G d 118 51 [l0, l1, l2, l3, l4] st σ Q ↔ G d 118 52 [l0, l1, l2, l3, l4] (.int (0) :: st) σ Q := gs_go f_118_51 rfl
theorem f_118_52 : ft 118 52 = some (93, .istore 4, []) := rfl
theorem s_118_52 {d : Nat} {σ : xS} {st : List Value} {Q : xR → xS → Prop} {l0 l1 l2 l3 l4 : Option Value} {x : Int32} : G d 118 52 [l0, l1, l2, l3, l4] (.int x :: st) σ Q ↔ G d 118 53 [l0, l1, l2, ykl l3, some (.int x)] st σ Q := by
  cases l3 with
  | none => exact gs_go f_118_52 rfl
  | some v => cases v <;> exact gs_go f_118_52 rfl
theorem f_118_53 : ft 118 53 = some (95, .iload 4, []) := rfl
theorem s_118_53 {d : Nat} {σ : xS} {st : List Value} {Q : xR → xS → Prop} {l0 l1 l2 l3 : Option Value} {x : Int32} : G d 118 53 [l0, l1, l2, l3, some (.int x)] st σ Q ↔ G d 118 54 [l0, l1, l2, l3, some (.int x)] (.int x :: st) σ Q := gs_go f_118_53 rfl
theorem f_118_54 : ft 118 54 = some (97, .iconst 3, []) := rfl
theorem s_118_54 {d : Nat} {σ : xS} {st : List Value} {Q : xR → xS → Prop} {l0 l1 l2 l3 l4 : Option Value} : G d 118 54 [l0, l1, l2, l3, l4] st σ Q ↔ G d 118 55 [l0, l1, l2, l3, l4] (.int (3) :: st) σ Q := gs_go f_118_54 rfl
theorem f_118_55 : ft 118 55 = some (98, .if_icmp .gt 24, [68]) := rfl
theorem s_118_55 {d : Nat} {σ : xS} {st : List Value} {Q : xR → xS → Prop} {l0 l1 l2 l3 l4 : Option Value} {x y : Int32} : G d 118 55 [l0, l1, l2, l3, l4] (.int y :: .int x :: st) σ Q ↔ if y < x then G d 118 68 [l0, l1, l2, l3, l4] st σ Q else G d 118 56 [l0, l1, l2, l3, l4] st σ Q := gs_if f_118_55 rfl
theorem f_118_56 : ft 118 56 = some (101, .ldc2_w 294, [31, 1617]) := rfl
theorem s_118_56 {d : Nat} {σ : xS} {st : List Value} {Q : xR → xS → Prop} {l0 l1 l2 l3 l4 : Option Value} : G d 118 56 [l0, l1, l2, l3, l4] st σ Q ↔ G d 118 57 [l0, l1, l2, l3, l4] (.long (31) :: st) σ Q := gs_go f_118_56 rfl
theorem f_118_57 : ft 118 57 = some (104, .lload_n 1, []) := rfl
theorem s_118_57 {d : Nat} {σ : xS} {st : List Value} {Q : xR → xS → Prop} {l0 l2 l3 l4 : Option Value} {x : Int64} : G d 118 57 [l0, some (.long x), l2, l3, l4] st σ Q ↔ G d 118 58 [l0, some (.long x), l2, l3, l4] (.long x :: st) σ Q := gs_go f_118_57 rfl
theorem f_118_58 : ft 118 58 = some (105, .lmul, []) := rfl
theorem s_118_58 {d : Nat} {σ : xS} {st : List Value} {Q : xR → xS → Prop} {l0 l1 l2 l3 l4 : Option Value} {x y : Int64} : G d 118 58 [l0, l1, l2, l3, l4] (.long y :: .long x :: st) σ Q ↔ G d 118 59 [l0, l1, l2, l3, l4] (.long (x * y) :: st) σ Q := gs_go f_118_58 rfl
theorem f_118_59 : ft 118 59 = some (106, .aload_n 0, []) := rfl
theorem s_118_59 {d : Nat} {σ : xS} {st : List Value} {Q : xR → xS → Prop} {l1 l2 l3 l4 : Option Value} {x : Nat} : G d 118 59 [some (.ref x), l1, l2, l3, l4] st σ Q ↔ G d 118 60 [some (.ref x), l1, l2, l3, l4] (.ref x :: st) σ Q := gs_go f_118_59 rfl
theorem f_118_60 : ft 118 60 = some (107, .iload_n 3, []) := rfl
theorem s_118_60 {d : Nat} {σ : xS} {st : List Value} {Q : xR → xS → Prop} {l0 l1 l2 l4 : Option Value} {x : Int32} : G d 118 60 [l0, l1, l2, some (.int x), l4] st σ Q ↔ G d 118 61 [l0, l1, l2, some (.int x), l4] (.int x :: st) σ Q := gs_go f_118_60 rfl
theorem f_118_61 : ft 118 61 = some (108, .iload 4, []) := rfl
theorem s_118_61 {d : Nat} {σ : xS} {st : List Value} {Q : xR → xS → Prop} {l0 l1 l2 l3 : Option Value} {x : Int32} : G d 118 61 [l0, l1, l2, l3, some (.int x)] st σ Q ↔ G d 118 62 [l0, l1, l2, l3, some (.int x)] (.int x :: st) σ Q := gs_go f_118_61 rfl
theorem f_118_62 : ft 118 62 = some (110, .invokevirtual 303, [101, 3, 0, 1632]) := rfl
theorem s_118_62 {d : Nat} {t : yT} {st : List Value} {Q : xR → xS → Prop} {l0 l1 l2 l3 l4 : Option Value} {a0 : Nat} {a1 : Int32} {a2 : Int32} (ho : yisO 7 a0) : G (d + 1) 118 62 [l0, l1, l2, l3, l4] (.int a2 :: .int a1 :: .ref a0 :: st) (yemb t) Q ↔ xcat st ≤ 8 ∧ Cl d 101 [.ref a0, .int a1, .int a2] (yemb t) (Gk (d + 1) 118 62 [l0, l1, l2, l3, l4] st Q) := gs_call f_118_62 ((xinv_call (i := 62) (n := 1632) (ls := [l0, l1, l2, l3, l4]) (kind := 0) (σ := yemb t) (by decide)).trans (xcall_vi [.int a2, .int a1, .ref a0] rfl rfl (show (3 : Nat) ≤ 3 by decide) rfl ho))
theorem f_118_63 : ft 118 63 = some (113, .i2l, []) := rfl
theorem s_118_63 {d : Nat} {σ : xS} {st : List Value} {Q : xR → xS → Prop} {l0 l1 l2 l3 l4 : Option Value} {x : Int32} : G d 118 63 [l0, l1, l2, l3, l4] (.int x :: st) σ Q ↔ G d 118 64 [l0, l1, l2, l3, l4] (.long x.toInt64 :: st) σ Q := gs_go f_118_63 rfl
theorem f_118_64 : ft 118 64 = some (114, .ladd, []) := rfl
theorem s_118_64 {d : Nat} {σ : xS} {st : List Value} {Q : xR → xS → Prop} {l0 l1 l2 l3 l4 : Option Value} {x y : Int64} : G d 118 64 [l0, l1, l2, l3, l4] (.long y :: .long x :: st) σ Q ↔ G d 118 65 [l0, l1, l2, l3, l4] (.long (x + y) :: st) σ Q := gs_go f_118_64 rfl
theorem f_118_65 : ft 118 65 = some (115, .lstore_n 1, []) := rfl
theorem s_118_65 {d : Nat} {σ : xS} {st : List Value} {Q : xR → xS → Prop} {l0 l1 l2 l3 l4 : Option Value} {x : Int64} : G d 118 65 [l0, l1, l2, l3, l4] (.long x :: st) σ Q ↔ G d 118 66 [ykl l0, some (.long x), none, l3, l4] st σ Q := by
  cases l0 with
  | none => exact gs_go f_118_65 rfl
  | some v => cases v <;> exact gs_go f_118_65 rfl
theorem f_118_66 : ft 118 66 = some (116, .iinc 4 1, []) := rfl
theorem s_118_66 {d : Nat} {σ : xS} {st : List Value} {Q : xR → xS → Prop} {l0 l1 l2 l3 : Option Value} {x : Int32} : G d 118 66 [l0, l1, l2, l3, some (.int x)] st σ Q ↔ G d 118 67 [l0, l1, l2, ykl l3, some (.int (x + 1))] st σ Q := by
  cases l3 with
  | none => exact gs_go f_118_66 rfl
  | some v => cases v <;> exact gs_go f_118_66 rfl
theorem f_118_67 : ft 118 67 = some (119, .goto (-24), [53]) := rfl
theorem s_118_67 {d : Nat} {σ : xS} {st : List Value} {Q : xR → xS → Prop} {l0 l1 l2 l3 l4 : Option Value} : G d 118 67 [l0, l1, l2, l3, l4] st σ Q ↔ G d 118 53 [l0, l1, l2, l3, l4] st σ Q := gs_go f_118_67 rfl
theorem f_118_68 : ft 118 68 = some (122, .iinc 3 1, []) := rfl
theorem s_118_68 {d : Nat} {σ : xS} {st : List Value} {Q : xR → xS → Prop} {l0 l1 l2 l4 : Option Value} {x : Int32} : G d 118 68 [l0, l1, l2, some (.int x), l4] st σ Q ↔ G d 118 69 [l0, l1, ykl l2, some (.int (x + 1)), l4] st σ Q := by
  cases l2 with
  | none => exact gs_go f_118_68 rfl
  | some v => cases v <;> exact gs_go f_118_68 rfl
theorem f_118_69 : ft 118 69 = some (125, .goto (-44), [46]) := rfl
theorem s_118_69 {d : Nat} {σ : xS} {st : List Value} {Q : xR → xS → Prop} {l0 l1 l2 l3 l4 : Option Value} : G d 118 69 [l0, l1, l2, l3, l4] st σ Q ↔ G d 118 46 [l0, l1, l2, l3, l4] st σ Q := gs_go f_118_69 rfl
theorem f_118_70 : ft 118 70 = some (128, .lload_n 1, []) := rfl
theorem s_118_70 {d : Nat} {σ : xS} {st : List Value} {Q : xR → xS → Prop} {l0 l2 l3 l4 : Option Value} {x : Int64} : G d 118 70 [l0, some (.long x), l2, l3, l4] st σ Q ↔ G d 118 71 [l0, some (.long x), l2, l3, l4] (.long x :: st) σ Q := gs_go f_118_70 rfl
theorem f_118_71 : ft 118 71 = some (129, .lreturn, []) := rfl
theorem s_118_71 {d : Nat} {σ : xS} {ls : xL} {Q : xR → xS → Prop} {x : Int64} : G d 118 71 ls [.long x] σ Q ↔ Q (.inl (some (.long x))) σ := gs_ret f_118_71 rfl
theorem f_119_0 : ft 119 0 = some (0, .iload_n 0, []) := rfl
theorem s_119_0 {d : Nat} {σ : xS} {st : List Value} {Q : xR → xS → Prop} {x : Int32} : G d 119 0 [some (.int x)] st σ Q ↔ G d 119 1 [some (.int x)] (.int x :: st) σ Q := gs_go f_119_0 rfl
theorem f_119_1 : ft 119 1 = some (1, .ifCond .lt 14, [7]) := rfl
theorem s_119_1 {d : Nat} {σ : xS} {st : List Value} {Q : xR → xS → Prop} {l0 : Option Value} {x : Int32} : G d 119 1 [l0] (.int x :: st) σ Q ↔ if x < 0 then G d 119 7 [l0] st σ Q else G d 119 2 [l0] st σ Q := gs_if f_119_1 rfl
theorem f_119_2 : ft 119 2 = some (4, .iload_n 0, []) := rfl
theorem s_119_2 {d : Nat} {σ : xS} {st : List Value} {Q : xR → xS → Prop} {x : Int32} : G d 119 2 [some (.int x)] st σ Q ↔ G d 119 3 [some (.int x)] (.int x :: st) σ Q := gs_go f_119_2 rfl
theorem f_119_3 : ft 119 3 = some (5, .sipush 255, []) := rfl
theorem s_119_3 {d : Nat} {σ : xS} {st : List Value} {Q : xR → xS → Prop} {l0 : Option Value} : G d 119 3 [l0] st σ Q ↔ G d 119 4 [l0] (.int (255) :: st) σ Q := gs_go f_119_3 rfl
theorem f_119_4 : ft 119 4 = some (8, .if_icmp .gt 7, [7]) := rfl
theorem s_119_4 {d : Nat} {σ : xS} {st : List Value} {Q : xR → xS → Prop} {l0 : Option Value} {x y : Int32} : G d 119 4 [l0] (.int y :: .int x :: st) σ Q ↔ if y < x then G d 119 7 [l0] st σ Q else G d 119 5 [l0] st σ Q := gs_if f_119_4 rfl
theorem f_119_5 : ft 119 5 = some (11, .iconst 1, []) := rfl
theorem s_119_5 {d : Nat} {σ : xS} {st : List Value} {Q : xR → xS → Prop} {l0 : Option Value} : G d 119 5 [l0] st σ Q ↔ G d 119 6 [l0] (.int (1) :: st) σ Q := gs_go f_119_5 rfl
theorem f_119_6 : ft 119 6 = some (12, .goto 4, [8]) := rfl
theorem s_119_6 {d : Nat} {σ : xS} {st : List Value} {Q : xR → xS → Prop} {l0 : Option Value} : G d 119 6 [l0] st σ Q ↔ G d 119 8 [l0] st σ Q := gs_go f_119_6 rfl
theorem f_119_7 : ft 119 7 = some (15, .iconst 0, []) := rfl
theorem s_119_7 {d : Nat} {σ : xS} {st : List Value} {Q : xR → xS → Prop} {l0 : Option Value} : G d 119 7 [l0] st σ Q ↔ G d 119 8 [l0] (.int (0) :: st) σ Q := gs_go f_119_7 rfl
theorem f_119_8 : ft 119 8 = some (16, .ireturn, []) := rfl
theorem s_119_8 {d : Nat} {σ : xS} {ls : xL} {Q : xR → xS → Prop} {x : Int32} : G d 119 8 ls [.int x] σ Q ↔ ybo x ∧ Q (.inl (some (.int x))) σ := gs_retb f_119_8 rfl
theorem f_120_0 : ft 120 0 = some (0, .iload_n 0, []) := rfl
theorem s_120_0 {d : Nat} {σ : xS} {st : List Value} {Q : xR → xS → Prop} {l1 : Option Value} {x : Int32} : G d 120 0 [some (.int x), l1] st σ Q ↔ G d 120 1 [some (.int x), l1] (.int x :: st) σ Q := gs_go f_120_0 rfl
theorem f_120_1 : ft 120 1 = some (1, .iconst 3, []) := rfl
theorem s_120_1 {d : Nat} {σ : xS} {st : List Value} {Q : xR → xS → Prop} {l0 l1 : Option Value} : G d 120 1 [l0, l1] st σ Q ↔ G d 120 2 [l0, l1] (.int (3) :: st) σ Q := gs_go f_120_1 rfl
theorem f_120_2 : ft 120 2 = some (2, .if_icmp .ne 22, [13]) := rfl
theorem s_120_2 {d : Nat} {σ : xS} {st : List Value} {Q : xR → xS → Prop} {l0 l1 : Option Value} {x y : Int32} : G d 120 2 [l0, l1] (.int y :: .int x :: st) σ Q ↔ if x ≠ y then G d 120 13 [l0, l1] st σ Q else G d 120 3 [l0, l1] st σ Q := gs_if f_120_2 rfl
theorem f_120_3 : ft 120 3 = some (5, .iload_n 1, []) := rfl
theorem s_120_3 {d : Nat} {σ : xS} {st : List Value} {Q : xR → xS → Prop} {l0 : Option Value} {x : Int32} : G d 120 3 [l0, some (.int x)] st σ Q ↔ G d 120 4 [l0, some (.int x)] (.int x :: st) σ Q := gs_go f_120_3 rfl
theorem f_120_4 : ft 120 4 = some (6, .iconst 2, []) := rfl
theorem s_120_4 {d : Nat} {σ : xS} {st : List Value} {Q : xR → xS → Prop} {l0 l1 : Option Value} : G d 120 4 [l0, l1] st σ Q ↔ G d 120 5 [l0, l1] (.int (2) :: st) σ Q := gs_go f_120_4 rfl
theorem f_120_5 : ft 120 5 = some (7, .if_icmp .lt 13, [11]) := rfl
theorem s_120_5 {d : Nat} {σ : xS} {st : List Value} {Q : xR → xS → Prop} {l0 l1 : Option Value} {x y : Int32} : G d 120 5 [l0, l1] (.int y :: .int x :: st) σ Q ↔ if x < y then G d 120 11 [l0, l1] st σ Q else G d 120 6 [l0, l1] st σ Q := gs_if f_120_5 rfl
theorem f_120_6 : ft 120 6 = some (10, .iload_n 1, []) := rfl
theorem s_120_6 {d : Nat} {σ : xS} {st : List Value} {Q : xR → xS → Prop} {l0 : Option Value} {x : Int32} : G d 120 6 [l0, some (.int x)] st σ Q ↔ G d 120 7 [l0, some (.int x)] (.int x :: st) σ Q := gs_go f_120_6 rfl
theorem f_120_7 : ft 120 7 = some (11, .bipush 9, []) := rfl
theorem s_120_7 {d : Nat} {σ : xS} {st : List Value} {Q : xR → xS → Prop} {l0 l1 : Option Value} : G d 120 7 [l0, l1] st σ Q ↔ G d 120 8 [l0, l1] (.int (9) :: st) σ Q := gs_go f_120_7 rfl
theorem f_120_8 : ft 120 8 = some (13, .if_icmp .gt 7, [11]) := rfl
theorem s_120_8 {d : Nat} {σ : xS} {st : List Value} {Q : xR → xS → Prop} {l0 l1 : Option Value} {x y : Int32} : G d 120 8 [l0, l1] (.int y :: .int x :: st) σ Q ↔ if y < x then G d 120 11 [l0, l1] st σ Q else G d 120 9 [l0, l1] st σ Q := gs_if f_120_8 rfl
theorem f_120_9 : ft 120 9 = some (16, .iconst 1, []) := rfl
theorem s_120_9 {d : Nat} {σ : xS} {st : List Value} {Q : xR → xS → Prop} {l0 l1 : Option Value} : G d 120 9 [l0, l1] st σ Q ↔ G d 120 10 [l0, l1] (.int (1) :: st) σ Q := gs_go f_120_9 rfl
theorem f_120_10 : ft 120 10 = some (17, .goto 16, [18]) := rfl
theorem s_120_10 {d : Nat} {σ : xS} {st : List Value} {Q : xR → xS → Prop} {l0 l1 : Option Value} : G d 120 10 [l0, l1] st σ Q ↔ G d 120 18 [l0, l1] st σ Q := gs_go f_120_10 rfl
theorem f_120_11 : ft 120 11 = some (20, .iconst 0, []) := rfl
theorem s_120_11 {d : Nat} {σ : xS} {st : List Value} {Q : xR → xS → Prop} {l0 l1 : Option Value} : G d 120 11 [l0, l1] st σ Q ↔ G d 120 12 [l0, l1] (.int (0) :: st) σ Q := gs_go f_120_11 rfl
theorem f_120_12 : ft 120 12 = some (21, .goto 12, [18]) := rfl
theorem s_120_12 {d : Nat} {σ : xS} {st : List Value} {Q : xR → xS → Prop} {l0 l1 : Option Value} : G d 120 12 [l0, l1] st σ Q ↔ G d 120 18 [l0, l1] st σ Q := gs_go f_120_12 rfl
theorem f_120_13 : ft 120 13 = some (24, .iload_n 1, []) := rfl
theorem s_120_13 {d : Nat} {σ : xS} {st : List Value} {Q : xR → xS → Prop} {l0 : Option Value} {x : Int32} : G d 120 13 [l0, some (.int x)] st σ Q ↔ G d 120 14 [l0, some (.int x)] (.int x :: st) σ Q := gs_go f_120_13 rfl
theorem f_120_14 : ft 120 14 = some (25, .ifCond .ne 7, [17]) := rfl
theorem s_120_14 {d : Nat} {σ : xS} {st : List Value} {Q : xR → xS → Prop} {l0 l1 : Option Value} {x : Int32} : G d 120 14 [l0, l1] (.int x :: st) σ Q ↔ if x ≠ 0 then G d 120 17 [l0, l1] st σ Q else G d 120 15 [l0, l1] st σ Q := gs_if f_120_14 rfl
theorem f_120_15 : ft 120 15 = some (28, .iconst 1, []) := rfl
theorem s_120_15 {d : Nat} {σ : xS} {st : List Value} {Q : xR → xS → Prop} {l0 l1 : Option Value} : G d 120 15 [l0, l1] st σ Q ↔ G d 120 16 [l0, l1] (.int (1) :: st) σ Q := gs_go f_120_15 rfl
theorem f_120_16 : ft 120 16 = some (29, .goto 4, [18]) := rfl
theorem s_120_16 {d : Nat} {σ : xS} {st : List Value} {Q : xR → xS → Prop} {l0 l1 : Option Value} : G d 120 16 [l0, l1] st σ Q ↔ G d 120 18 [l0, l1] st σ Q := gs_go f_120_16 rfl
theorem f_120_17 : ft 120 17 = some (32, .iconst 0, []) := rfl
theorem s_120_17 {d : Nat} {σ : xS} {st : List Value} {Q : xR → xS → Prop} {l0 l1 : Option Value} : G d 120 17 [l0, l1] st σ Q ↔ G d 120 18 [l0, l1] (.int (0) :: st) σ Q := gs_go f_120_17 rfl
theorem f_120_18 : ft 120 18 = some (33, .ireturn, []) := rfl
theorem s_120_18 {d : Nat} {σ : xS} {ls : xL} {Q : xR → xS → Prop} {x : Int32} : G d 120 18 ls [.int x] σ Q ↔ ybo x ∧ Q (.inl (some (.int x))) σ := gs_retb f_120_18 rfl
theorem f_121_0 : ft 121 0 = some (0, .iload_n 0, []) := rfl
theorem s_121_0 {d : Nat} {σ : xS} {st : List Value} {Q : xR → xS → Prop} {l1 l2 : Option Value} {x : Int32} : G d 121 0 [some (.int x), l1, l2] st σ Q ↔ G d 121 1 [some (.int x), l1, l2] (.int x :: st) σ Q := gs_go f_121_0 rfl
theorem f_121_1 : ft 121 1 = some (1, .bipush 16, []) := rfl
theorem s_121_1 {d : Nat} {σ : xS} {st : List Value} {Q : xR → xS → Prop} {l0 l1 l2 : Option Value} : G d 121 1 [l0, l1, l2] st σ Q ↔ G d 121 2 [l0, l1, l2] (.int (16) :: st) σ Q := gs_go f_121_1 rfl
theorem f_121_2 : ft 121 2 = some (3, .ishl, []) := rfl
theorem s_121_2 {d : Nat} {σ : xS} {st : List Value} {Q : xR → xS → Prop} {l0 l1 l2 : Option Value} {x y : Int32} : G d 121 2 [l0, l1, l2] (.int y :: .int x :: st) σ Q ↔ G d 121 3 [l0, l1, l2] (.int (x <<< (y &&& 31)) :: st) σ Q := gs_go f_121_2 rfl
theorem f_121_3 : ft 121 3 = some (4, .iload_n 1, []) := rfl
theorem s_121_3 {d : Nat} {σ : xS} {st : List Value} {Q : xR → xS → Prop} {l0 l2 : Option Value} {x : Int32} : G d 121 3 [l0, some (.int x), l2] st σ Q ↔ G d 121 4 [l0, some (.int x), l2] (.int x :: st) σ Q := gs_go f_121_3 rfl
theorem f_121_4 : ft 121 4 = some (5, .bipush 8, []) := rfl
theorem s_121_4 {d : Nat} {σ : xS} {st : List Value} {Q : xR → xS → Prop} {l0 l1 l2 : Option Value} : G d 121 4 [l0, l1, l2] st σ Q ↔ G d 121 5 [l0, l1, l2] (.int (8) :: st) σ Q := gs_go f_121_4 rfl
theorem f_121_5 : ft 121 5 = some (7, .ishl, []) := rfl
theorem s_121_5 {d : Nat} {σ : xS} {st : List Value} {Q : xR → xS → Prop} {l0 l1 l2 : Option Value} {x y : Int32} : G d 121 5 [l0, l1, l2] (.int y :: .int x :: st) σ Q ↔ G d 121 6 [l0, l1, l2] (.int (x <<< (y &&& 31)) :: st) σ Q := gs_go f_121_5 rfl
theorem f_121_6 : ft 121 6 = some (8, .ior, []) := rfl
theorem s_121_6 {d : Nat} {σ : xS} {st : List Value} {Q : xR → xS → Prop} {l0 l1 l2 : Option Value} {x y : Int32} : G d 121 6 [l0, l1, l2] (.int y :: .int x :: st) σ Q ↔ G d 121 7 [l0, l1, l2] (.int (x ||| y) :: st) σ Q := gs_go f_121_6 rfl
theorem f_121_7 : ft 121 7 = some (9, .iload_n 2, []) := rfl
theorem s_121_7 {d : Nat} {σ : xS} {st : List Value} {Q : xR → xS → Prop} {l0 l1 : Option Value} {x : Int32} : G d 121 7 [l0, l1, some (.int x)] st σ Q ↔ G d 121 8 [l0, l1, some (.int x)] (.int x :: st) σ Q := gs_go f_121_7 rfl
theorem f_121_8 : ft 121 8 = some (10, .ior, []) := rfl
theorem s_121_8 {d : Nat} {σ : xS} {st : List Value} {Q : xR → xS → Prop} {l0 l1 l2 : Option Value} {x y : Int32} : G d 121 8 [l0, l1, l2] (.int y :: .int x :: st) σ Q ↔ G d 121 9 [l0, l1, l2] (.int (x ||| y) :: st) σ Q := gs_go f_121_8 rfl
theorem f_121_9 : ft 121 9 = some (11, .ireturn, []) := rfl
theorem s_121_9 {d : Nat} {σ : xS} {ls : xL} {Q : xR → xS → Prop} {x : Int32} : G d 121 9 ls [.int x] σ Q ↔ Q (.inl (some (.int x))) σ := gs_reti f_121_9 rfl

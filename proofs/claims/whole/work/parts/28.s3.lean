theorem f_216_0 : ft 216 0 = some (0, .lload_n 0, []) := rfl
theorem s_216_0 {d : Nat} {σ : xS} {st : List Value} {Q : xR → xS → Prop} {l1 : Option Value} {x : Int64} : G d 216 0 [some (.long x), l1] st σ Q ↔ G d 216 1 [some (.long x), l1] (.long x :: st) σ Q := gs_go f_216_0 rfl
theorem f_216_1 : ft 216 1 = some (1, .lload_n 0, []) := rfl
theorem s_216_1 {d : Nat} {σ : xS} {st : List Value} {Q : xR → xS → Prop} {l1 : Option Value} {x : Int64} : G d 216 1 [some (.long x), l1] st σ Q ↔ G d 216 2 [some (.long x), l1] (.long x :: st) σ Q := gs_go f_216_1 rfl
theorem f_216_2 : ft 216 2 = some (2, .iconst 1, []) := rfl
theorem s_216_2 {d : Nat} {σ : xS} {st : List Value} {Q : xR → xS → Prop} {l0 l1 : Option Value} : G d 216 2 [l0, l1] st σ Q ↔ G d 216 3 [l0, l1] (.int (1) :: st) σ Q := gs_go f_216_2 rfl
theorem f_216_3 : ft 216 3 = some (3, .lushr, []) := rfl
theorem s_216_3 {d : Nat} {σ : xS} {st : List Value} {Q : xR → xS → Prop} {l0 l1 : Option Value} {x : Int64} {y : Int32} : G d 216 3 [l0, l1] (.int y :: .long x :: st) σ Q ↔ G d 216 4 [l0, l1] (.long ((x.toUInt64 >>> (y.toInt64.toUInt64 &&& Int64.toUInt64 63)).toInt64) :: st) σ Q := gs_go f_216_3 rfl
theorem f_216_4 : ft 216 4 = some (4, .ldc2_w 314, [6148914691236517205, 525]) := rfl
theorem s_216_4 {d : Nat} {σ : xS} {st : List Value} {Q : xR → xS → Prop} {l0 l1 : Option Value} : G d 216 4 [l0, l1] st σ Q ↔ G d 216 5 [l0, l1] (.long (6148914691236517205) :: st) σ Q := gs_go f_216_4 rfl
theorem f_216_5 : ft 216 5 = some (7, .land, []) := rfl
theorem s_216_5 {d : Nat} {σ : xS} {st : List Value} {Q : xR → xS → Prop} {l0 l1 : Option Value} {x y : Int64} : G d 216 5 [l0, l1] (.long y :: .long x :: st) σ Q ↔ G d 216 6 [l0, l1] (.long (x &&& y) :: st) σ Q := gs_go f_216_5 rfl
theorem f_216_6 : ft 216 6 = some (8, .lsub, []) := rfl
theorem s_216_6 {d : Nat} {σ : xS} {st : List Value} {Q : xR → xS → Prop} {l0 l1 : Option Value} {x y : Int64} : G d 216 6 [l0, l1] (.long y :: .long x :: st) σ Q ↔ G d 216 7 [l0, l1] (.long (x - y) :: st) σ Q := gs_go f_216_6 rfl
theorem f_216_7 : ft 216 7 = some (9, .lstore_n 0, []) := rfl
theorem s_216_7 {d : Nat} {σ : xS} {st : List Value} {Q : xR → xS → Prop} {l0 l1 : Option Value} {x : Int64} : G d 216 7 [l0, l1] (.long x :: st) σ Q ↔ G d 216 8 [some (.long x), none] st σ Q := gs_go f_216_7 rfl
theorem f_216_8 : ft 216 8 = some (10, .lload_n 0, []) := rfl
theorem s_216_8 {d : Nat} {σ : xS} {st : List Value} {Q : xR → xS → Prop} {l1 : Option Value} {x : Int64} : G d 216 8 [some (.long x), l1] st σ Q ↔ G d 216 9 [some (.long x), l1] (.long x :: st) σ Q := gs_go f_216_8 rfl
theorem f_216_9 : ft 216 9 = some (11, .ldc2_w 316, [3689348814741910323, 526]) := rfl
theorem s_216_9 {d : Nat} {σ : xS} {st : List Value} {Q : xR → xS → Prop} {l0 l1 : Option Value} : G d 216 9 [l0, l1] st σ Q ↔ G d 216 10 [l0, l1] (.long (3689348814741910323) :: st) σ Q := gs_go f_216_9 rfl
theorem f_216_10 : ft 216 10 = some (14, .land, []) := rfl
theorem s_216_10 {d : Nat} {σ : xS} {st : List Value} {Q : xR → xS → Prop} {l0 l1 : Option Value} {x y : Int64} : G d 216 10 [l0, l1] (.long y :: .long x :: st) σ Q ↔ G d 216 11 [l0, l1] (.long (x &&& y) :: st) σ Q := gs_go f_216_10 rfl
theorem f_216_11 : ft 216 11 = some (15, .lload_n 0, []) := rfl
theorem s_216_11 {d : Nat} {σ : xS} {st : List Value} {Q : xR → xS → Prop} {l1 : Option Value} {x : Int64} : G d 216 11 [some (.long x), l1] st σ Q ↔ G d 216 12 [some (.long x), l1] (.long x :: st) σ Q := gs_go f_216_11 rfl
theorem f_216_12 : ft 216 12 = some (16, .iconst 2, []) := rfl
theorem s_216_12 {d : Nat} {σ : xS} {st : List Value} {Q : xR → xS → Prop} {l0 l1 : Option Value} : G d 216 12 [l0, l1] st σ Q ↔ G d 216 13 [l0, l1] (.int (2) :: st) σ Q := gs_go f_216_12 rfl
theorem f_216_13 : ft 216 13 = some (17, .lushr, []) := rfl
theorem s_216_13 {d : Nat} {σ : xS} {st : List Value} {Q : xR → xS → Prop} {l0 l1 : Option Value} {x : Int64} {y : Int32} : G d 216 13 [l0, l1] (.int y :: .long x :: st) σ Q ↔ G d 216 14 [l0, l1] (.long ((x.toUInt64 >>> (y.toInt64.toUInt64 &&& Int64.toUInt64 63)).toInt64) :: st) σ Q := gs_go f_216_13 rfl
theorem f_216_14 : ft 216 14 = some (18, .ldc2_w 316, [3689348814741910323, 526]) := rfl
theorem s_216_14 {d : Nat} {σ : xS} {st : List Value} {Q : xR → xS → Prop} {l0 l1 : Option Value} : G d 216 14 [l0, l1] st σ Q ↔ G d 216 15 [l0, l1] (.long (3689348814741910323) :: st) σ Q := gs_go f_216_14 rfl
theorem f_216_15 : ft 216 15 = some (21, .land, []) := rfl
theorem s_216_15 {d : Nat} {σ : xS} {st : List Value} {Q : xR → xS → Prop} {l0 l1 : Option Value} {x y : Int64} : G d 216 15 [l0, l1] (.long y :: .long x :: st) σ Q ↔ G d 216 16 [l0, l1] (.long (x &&& y) :: st) σ Q := gs_go f_216_15 rfl
theorem f_216_16 : ft 216 16 = some (22, .ladd, []) := rfl
theorem s_216_16 {d : Nat} {σ : xS} {st : List Value} {Q : xR → xS → Prop} {l0 l1 : Option Value} {x y : Int64} : G d 216 16 [l0, l1] (.long y :: .long x :: st) σ Q ↔ G d 216 17 [l0, l1] (.long (x + y) :: st) σ Q := gs_go f_216_16 rfl
theorem f_216_17 : ft 216 17 = some (23, .lstore_n 0, []) := rfl
theorem s_216_17 {d : Nat} {σ : xS} {st : List Value} {Q : xR → xS → Prop} {l0 l1 : Option Value} {x : Int64} : G d 216 17 [l0, l1] (.long x :: st) σ Q ↔ G d 216 18 [some (.long x), none] st σ Q := gs_go f_216_17 rfl
theorem f_216_18 : ft 216 18 = some (24, .lload_n 0, []) := rfl
theorem s_216_18 {d : Nat} {σ : xS} {st : List Value} {Q : xR → xS → Prop} {l1 : Option Value} {x : Int64} : G d 216 18 [some (.long x), l1] st σ Q ↔ G d 216 19 [some (.long x), l1] (.long x :: st) σ Q := gs_go f_216_18 rfl
theorem f_216_19 : ft 216 19 = some (25, .lload_n 0, []) := rfl
theorem s_216_19 {d : Nat} {σ : xS} {st : List Value} {Q : xR → xS → Prop} {l1 : Option Value} {x : Int64} : G d 216 19 [some (.long x), l1] st σ Q ↔ G d 216 20 [some (.long x), l1] (.long x :: st) σ Q := gs_go f_216_19 rfl
theorem f_216_20 : ft 216 20 = some (26, .iconst 4, []) := rfl
theorem s_216_20 {d : Nat} {σ : xS} {st : List Value} {Q : xR → xS → Prop} {l0 l1 : Option Value} : G d 216 20 [l0, l1] st σ Q ↔ G d 216 21 [l0, l1] (.int (4) :: st) σ Q := gs_go f_216_20 rfl
theorem f_216_21 : ft 216 21 = some (27, .lushr, []) := rfl
theorem s_216_21 {d : Nat} {σ : xS} {st : List Value} {Q : xR → xS → Prop} {l0 l1 : Option Value} {x : Int64} {y : Int32} : G d 216 21 [l0, l1] (.int y :: .long x :: st) σ Q ↔ G d 216 22 [l0, l1] (.long ((x.toUInt64 >>> (y.toInt64.toUInt64 &&& Int64.toUInt64 63)).toInt64) :: st) σ Q := gs_go f_216_21 rfl
theorem f_216_22 : ft 216 22 = some (28, .ladd, []) := rfl
theorem s_216_22 {d : Nat} {σ : xS} {st : List Value} {Q : xR → xS → Prop} {l0 l1 : Option Value} {x y : Int64} : G d 216 22 [l0, l1] (.long y :: .long x :: st) σ Q ↔ G d 216 23 [l0, l1] (.long (x + y) :: st) σ Q := gs_go f_216_22 rfl
theorem f_216_23 : ft 216 23 = some (29, .ldc2_w 318, [1085102592571150095, 527]) := rfl
theorem s_216_23 {d : Nat} {σ : xS} {st : List Value} {Q : xR → xS → Prop} {l0 l1 : Option Value} : G d 216 23 [l0, l1] st σ Q ↔ G d 216 24 [l0, l1] (.long (1085102592571150095) :: st) σ Q := gs_go f_216_23 rfl
theorem f_216_24 : ft 216 24 = some (32, .land, []) := rfl
theorem s_216_24 {d : Nat} {σ : xS} {st : List Value} {Q : xR → xS → Prop} {l0 l1 : Option Value} {x y : Int64} : G d 216 24 [l0, l1] (.long y :: .long x :: st) σ Q ↔ G d 216 25 [l0, l1] (.long (x &&& y) :: st) σ Q := gs_go f_216_24 rfl
theorem f_216_25 : ft 216 25 = some (33, .lstore_n 0, []) := rfl
theorem s_216_25 {d : Nat} {σ : xS} {st : List Value} {Q : xR → xS → Prop} {l0 l1 : Option Value} {x : Int64} : G d 216 25 [l0, l1] (.long x :: st) σ Q ↔ G d 216 26 [some (.long x), none] st σ Q := gs_go f_216_25 rfl
theorem f_216_26 : ft 216 26 = some (34, .lload_n 0, []) := rfl
theorem s_216_26 {d : Nat} {σ : xS} {st : List Value} {Q : xR → xS → Prop} {l1 : Option Value} {x : Int64} : G d 216 26 [some (.long x), l1] st σ Q ↔ G d 216 27 [some (.long x), l1] (.long x :: st) σ Q := gs_go f_216_26 rfl
theorem f_216_27 : ft 216 27 = some (35, .lload_n 0, []) := rfl
theorem s_216_27 {d : Nat} {σ : xS} {st : List Value} {Q : xR → xS → Prop} {l1 : Option Value} {x : Int64} : G d 216 27 [some (.long x), l1] st σ Q ↔ G d 216 28 [some (.long x), l1] (.long x :: st) σ Q := gs_go f_216_27 rfl
theorem f_216_28 : ft 216 28 = some (36, .bipush 8, []) := rfl
theorem s_216_28 {d : Nat} {σ : xS} {st : List Value} {Q : xR → xS → Prop} {l0 l1 : Option Value} : G d 216 28 [l0, l1] st σ Q ↔ G d 216 29 [l0, l1] (.int (8) :: st) σ Q := gs_go f_216_28 rfl
theorem f_216_29 : ft 216 29 = some (38, .lushr, []) := rfl
theorem s_216_29 {d : Nat} {σ : xS} {st : List Value} {Q : xR → xS → Prop} {l0 l1 : Option Value} {x : Int64} {y : Int32} : G d 216 29 [l0, l1] (.int y :: .long x :: st) σ Q ↔ G d 216 30 [l0, l1] (.long ((x.toUInt64 >>> (y.toInt64.toUInt64 &&& Int64.toUInt64 63)).toInt64) :: st) σ Q := gs_go f_216_29 rfl
theorem f_216_30 : ft 216 30 = some (39, .ladd, []) := rfl
theorem s_216_30 {d : Nat} {σ : xS} {st : List Value} {Q : xR → xS → Prop} {l0 l1 : Option Value} {x y : Int64} : G d 216 30 [l0, l1] (.long y :: .long x :: st) σ Q ↔ G d 216 31 [l0, l1] (.long (x + y) :: st) σ Q := gs_go f_216_30 rfl
theorem f_216_31 : ft 216 31 = some (40, .lstore_n 0, []) := rfl
theorem s_216_31 {d : Nat} {σ : xS} {st : List Value} {Q : xR → xS → Prop} {l0 l1 : Option Value} {x : Int64} : G d 216 31 [l0, l1] (.long x :: st) σ Q ↔ G d 216 32 [some (.long x), none] st σ Q := gs_go f_216_31 rfl
theorem f_216_32 : ft 216 32 = some (41, .lload_n 0, []) := rfl
theorem s_216_32 {d : Nat} {σ : xS} {st : List Value} {Q : xR → xS → Prop} {l1 : Option Value} {x : Int64} : G d 216 32 [some (.long x), l1] st σ Q ↔ G d 216 33 [some (.long x), l1] (.long x :: st) σ Q := gs_go f_216_32 rfl
theorem f_216_33 : ft 216 33 = some (42, .lload_n 0, []) := rfl
theorem s_216_33 {d : Nat} {σ : xS} {st : List Value} {Q : xR → xS → Prop} {l1 : Option Value} {x : Int64} : G d 216 33 [some (.long x), l1] st σ Q ↔ G d 216 34 [some (.long x), l1] (.long x :: st) σ Q := gs_go f_216_33 rfl
theorem f_216_34 : ft 216 34 = some (43, .bipush 16, []) := rfl
theorem s_216_34 {d : Nat} {σ : xS} {st : List Value} {Q : xR → xS → Prop} {l0 l1 : Option Value} : G d 216 34 [l0, l1] st σ Q ↔ G d 216 35 [l0, l1] (.int (16) :: st) σ Q := gs_go f_216_34 rfl
theorem f_216_35 : ft 216 35 = some (45, .lushr, []) := rfl
theorem s_216_35 {d : Nat} {σ : xS} {st : List Value} {Q : xR → xS → Prop} {l0 l1 : Option Value} {x : Int64} {y : Int32} : G d 216 35 [l0, l1] (.int y :: .long x :: st) σ Q ↔ G d 216 36 [l0, l1] (.long ((x.toUInt64 >>> (y.toInt64.toUInt64 &&& Int64.toUInt64 63)).toInt64) :: st) σ Q := gs_go f_216_35 rfl
theorem f_216_36 : ft 216 36 = some (46, .ladd, []) := rfl
theorem s_216_36 {d : Nat} {σ : xS} {st : List Value} {Q : xR → xS → Prop} {l0 l1 : Option Value} {x y : Int64} : G d 216 36 [l0, l1] (.long y :: .long x :: st) σ Q ↔ G d 216 37 [l0, l1] (.long (x + y) :: st) σ Q := gs_go f_216_36 rfl
theorem f_216_37 : ft 216 37 = some (47, .lstore_n 0, []) := rfl
theorem s_216_37 {d : Nat} {σ : xS} {st : List Value} {Q : xR → xS → Prop} {l0 l1 : Option Value} {x : Int64} : G d 216 37 [l0, l1] (.long x :: st) σ Q ↔ G d 216 38 [some (.long x), none] st σ Q := gs_go f_216_37 rfl
theorem f_216_38 : ft 216 38 = some (48, .lload_n 0, []) := rfl
theorem s_216_38 {d : Nat} {σ : xS} {st : List Value} {Q : xR → xS → Prop} {l1 : Option Value} {x : Int64} : G d 216 38 [some (.long x), l1] st σ Q ↔ G d 216 39 [some (.long x), l1] (.long x :: st) σ Q := gs_go f_216_38 rfl
theorem f_216_39 : ft 216 39 = some (49, .lload_n 0, []) := rfl
theorem s_216_39 {d : Nat} {σ : xS} {st : List Value} {Q : xR → xS → Prop} {l1 : Option Value} {x : Int64} : G d 216 39 [some (.long x), l1] st σ Q ↔ G d 216 40 [some (.long x), l1] (.long x :: st) σ Q := gs_go f_216_39 rfl
theorem f_216_40 : ft 216 40 = some (50, .bipush 32, []) := rfl
theorem s_216_40 {d : Nat} {σ : xS} {st : List Value} {Q : xR → xS → Prop} {l0 l1 : Option Value} : G d 216 40 [l0, l1] st σ Q ↔ G d 216 41 [l0, l1] (.int (32) :: st) σ Q := gs_go f_216_40 rfl
theorem f_216_41 : ft 216 41 = some (52, .lushr, []) := rfl
theorem s_216_41 {d : Nat} {σ : xS} {st : List Value} {Q : xR → xS → Prop} {l0 l1 : Option Value} {x : Int64} {y : Int32} : G d 216 41 [l0, l1] (.int y :: .long x :: st) σ Q ↔ G d 216 42 [l0, l1] (.long ((x.toUInt64 >>> (y.toInt64.toUInt64 &&& Int64.toUInt64 63)).toInt64) :: st) σ Q := gs_go f_216_41 rfl
theorem f_216_42 : ft 216 42 = some (53, .ladd, []) := rfl
theorem s_216_42 {d : Nat} {σ : xS} {st : List Value} {Q : xR → xS → Prop} {l0 l1 : Option Value} {x y : Int64} : G d 216 42 [l0, l1] (.long y :: .long x :: st) σ Q ↔ G d 216 43 [l0, l1] (.long (x + y) :: st) σ Q := gs_go f_216_42 rfl
theorem f_216_43 : ft 216 43 = some (54, .lstore_n 0, []) := rfl
theorem s_216_43 {d : Nat} {σ : xS} {st : List Value} {Q : xR → xS → Prop} {l0 l1 : Option Value} {x : Int64} : G d 216 43 [l0, l1] (.long x :: st) σ Q ↔ G d 216 44 [some (.long x), none] st σ Q := gs_go f_216_43 rfl
theorem f_216_44 : ft 216 44 = some (55, .lload_n 0, []) := rfl
theorem s_216_44 {d : Nat} {σ : xS} {st : List Value} {Q : xR → xS → Prop} {l1 : Option Value} {x : Int64} : G d 216 44 [some (.long x), l1] st σ Q ↔ G d 216 45 [some (.long x), l1] (.long x :: st) σ Q := gs_go f_216_44 rfl
theorem f_216_45 : ft 216 45 = some (56, .l2i, []) := rfl
theorem s_216_45 {d : Nat} {σ : xS} {st : List Value} {Q : xR → xS → Prop} {l0 l1 : Option Value} {x : Int64} : G d 216 45 [l0, l1] (.long x :: st) σ Q ↔ G d 216 46 [l0, l1] (.int x.toInt32 :: st) σ Q := gs_go f_216_45 rfl
theorem f_216_46 : ft 216 46 = some (57, .bipush 127, []) := rfl
theorem s_216_46 {d : Nat} {σ : xS} {st : List Value} {Q : xR → xS → Prop} {l0 l1 : Option Value} : G d 216 46 [l0, l1] st σ Q ↔ G d 216 47 [l0, l1] (.int (127) :: st) σ Q := gs_go f_216_46 rfl
theorem f_216_47 : ft 216 47 = some (59, .iand, []) := rfl
theorem s_216_47 {d : Nat} {σ : xS} {st : List Value} {Q : xR → xS → Prop} {l0 l1 : Option Value} {x y : Int32} : G d 216 47 [l0, l1] (.int y :: .int x :: st) σ Q ↔ G d 216 48 [l0, l1] (.int (x &&& y) :: st) σ Q := gs_go f_216_47 rfl
theorem f_216_48 : ft 216 48 = some (60, .ireturn, []) := rfl
theorem s_216_48 {d : Nat} {σ : xS} {ls : xL} {Q : xR → xS → Prop} {x : Int32} : G d 216 48 ls [.int x] σ Q ↔ Q (.inl (some (.int x))) σ := gs_reti f_216_48 rfl
theorem f_217_0 : ft 217 0 = some (0, .aload_n 0, []) := rfl
theorem s_217_0 {d : Nat} {σ : xS} {st : List Value} {Q : xR → xS → Prop} {x : Nat} : G d 217 0 [some (.ref x)] st σ Q ↔ G d 217 1 [some (.ref x)] (.ref x :: st) σ Q := gs_go f_217_0 rfl
theorem f_217_1 : ft 217 1 = some (1, .getfield 9, [100, 0, 0, 1669]) := rfl
theorem f_217_2 : ft 217 2 = some (4, .arraylength, []) := rfl
theorem f_217_3 : ft 217 3 = some (5, .aload_n 0, []) := rfl
theorem s_217_3 {d : Nat} {σ : xS} {st : List Value} {Q : xR → xS → Prop} {x : Nat} : G d 217 3 [some (.ref x)] st σ Q ↔ G d 217 4 [some (.ref x)] (.ref x :: st) σ Q := gs_go f_217_3 rfl
theorem f_217_4 : ft 217 4 = some (6, .invokevirtual 335, [219, 1, 0, 701]) := rfl
theorem f_217_5 : ft 217 5 = some (9, .ishr, []) := rfl
theorem s_217_5 {d : Nat} {σ : xS} {st : List Value} {Q : xR → xS → Prop} {l0 : Option Value} {x y : Int32} : G d 217 5 [l0] (.int y :: .int x :: st) σ Q ↔ G d 217 6 [l0] (.int (x >>> (y &&& 31)) :: st) σ Q := gs_go f_217_5 rfl
theorem f_217_6 : ft 217 6 = some (10, .ireturn, []) := rfl
theorem s_217_6 {d : Nat} {σ : xS} {ls : xL} {Q : xR → xS → Prop} {x : Int32} : G d 217 6 ls [.int x] σ Q ↔ Q (.inl (some (.int x))) σ := gs_reti f_217_6 rfl
theorem f_218_0 : ft 218 0 = some (0, .aload_n 0, []) := rfl
theorem s_218_0 {d : Nat} {σ : xS} {st : List Value} {Q : xR → xS → Prop} {l1 : Option Value} {x : Nat} : G d 218 0 [some (.ref x), l1] st σ Q ↔ G d 218 1 [some (.ref x), l1] (.ref x :: st) σ Q := gs_go f_218_0 rfl
theorem f_218_1 : ft 218 1 = some (1, .invokevirtual 492, [220, 1, 0, 711]) := rfl
theorem f_218_2 : ft 218 2 = some (4, .ifCond .eq 12, [8]) := rfl
theorem s_218_2 {d : Nat} {σ : xS} {st : List Value} {Q : xR → xS → Prop} {l0 l1 : Option Value} {x : Int32} : G d 218 2 [l0, l1] (.int x :: st) σ Q ↔ if x = 0 then G d 218 8 [l0, l1] st σ Q else G d 218 3 [l0, l1] st σ Q := gs_if f_218_2 rfl
theorem f_218_3 : ft 218 3 = some (7, .aload_n 0, []) := rfl
theorem s_218_3 {d : Nat} {σ : xS} {st : List Value} {Q : xR → xS → Prop} {l1 : Option Value} {x : Nat} : G d 218 3 [some (.ref x), l1] st σ Q ↔ G d 218 4 [some (.ref x), l1] (.ref x :: st) σ Q := gs_go f_218_3 rfl
theorem f_218_4 : ft 218 4 = some (8, .getfield 9, [100, 0, 0, 1669]) := rfl
theorem f_218_5 : ft 218 5 = some (11, .iload_n 1, []) := rfl
theorem s_218_5 {d : Nat} {σ : xS} {st : List Value} {Q : xR → xS → Prop} {l0 : Option Value} {x : Int32} : G d 218 5 [l0, some (.int x)] st σ Q ↔ G d 218 6 [l0, some (.int x)] (.int x :: st) σ Q := gs_go f_218_5 rfl
theorem f_218_6 : ft 218 6 = some (12, .invokestatic 495, [222, 2, 1, 715]) := rfl
theorem s_218_6 {d : Nat} {σ : xS} {st : List Value} {Q : xR → xS → Prop} {l0 l1 : Option Value} {a0 : Nat} {a1 : Int32} : G (d + 1) 218 6 [l0, l1] (.int a1 :: .ref a0 :: st) σ Q ↔ xcat st ≤ 8 ∧ Cl d 222 [.ref a0, .int a1] σ (Gk (d + 1) 218 6 [l0, l1] st Q) := gs_call f_218_6 ((xinv_call (i := 6) (n := 715) (ls := [l0, l1]) (kind := 1) (σ := σ) (by decide)).trans (xcall_st [.int a1, .ref a0] rfl (by decide) (show (2 : Nat) ≤ 2 by decide)))
theorem f_218_7 : ft 218 7 = some (15, .ireturn, []) := rfl
theorem f_218_8 : ft 218 8 = some (16, .aload_n 0, []) := rfl
theorem s_218_8 {d : Nat} {σ : xS} {st : List Value} {Q : xR → xS → Prop} {l1 : Option Value} {x : Nat} : G d 218 8 [some (.ref x), l1] st σ Q ↔ G d 218 9 [some (.ref x), l1] (.ref x :: st) σ Q := gs_go f_218_8 rfl
theorem f_218_9 : ft 218 9 = some (17, .getfield 9, [100, 0, 0, 1669]) := rfl
theorem f_218_10 : ft 218 10 = some (20, .iload_n 1, []) := rfl
theorem s_218_10 {d : Nat} {σ : xS} {st : List Value} {Q : xR → xS → Prop} {l0 : Option Value} {x : Int32} : G d 218 10 [l0, some (.int x)] st σ Q ↔ G d 218 11 [l0, some (.int x)] (.int x :: st) σ Q := gs_go f_218_10 rfl
theorem f_218_11 : ft 218 11 = some (21, .invokestatic 498, [0, 0, 99, 0]) := rfl
theorem f_218_12 : ft 218 12 = some (24, .ireturn, []) := rfl
theorem f_219_0 : ft 219 0 = some (0, .getstatic 38, [1, 705]) := rfl
theorem s_219_0 {d : Nat} {σ : xS} {st : List Value} {Q : xR → xS → Prop} {l0 : Option Value} : G d 219 0 [l0] st σ Q ↔ G d 219 1 [l0] (.int 1 :: st) σ Q := gs_go f_219_0 rfl
theorem f_219_1 : ft 219 1 = some (3, .ifCond .eq 10, [5]) := rfl
theorem s_219_1 {d : Nat} {σ : xS} {st : List Value} {Q : xR → xS → Prop} {l0 : Option Value} {x : Int32} : G d 219 1 [l0] (.int x :: st) σ Q ↔ if x = 0 then G d 219 5 [l0] st σ Q else G d 219 2 [l0] st σ Q := gs_if f_219_1 rfl
theorem f_219_2 : ft 219 2 = some (6, .aload_n 0, []) := rfl
theorem s_219_2 {d : Nat} {σ : xS} {st : List Value} {Q : xR → xS → Prop} {x : Nat} : G d 219 2 [some (.ref x)] st σ Q ↔ G d 219 3 [some (.ref x)] (.ref x :: st) σ Q := gs_go f_219_2 rfl
theorem f_219_3 : ft 219 3 = some (7, .getfield 15, [100, 1, 0, 1670]) := rfl
theorem f_219_4 : ft 219 4 = some (10, .goto 4, [6]) := rfl
theorem s_219_4 {d : Nat} {σ : xS} {st : List Value} {Q : xR → xS → Prop} {l0 : Option Value} : G d 219 4 [l0] st σ Q ↔ G d 219 6 [l0] st σ Q := gs_go f_219_4 rfl
theorem f_219_5 : ft 219 5 = some (13, .iconst 1, []) := rfl
theorem s_219_5 {d : Nat} {σ : xS} {st : List Value} {Q : xR → xS → Prop} {l0 : Option Value} : G d 219 5 [l0] st σ Q ↔ G d 219 6 [l0] (.int (1) :: st) σ Q := gs_go f_219_5 rfl
theorem f_219_6 : ft 219 6 = some (14, .ireturn, []) := rfl
theorem f_220_0 : ft 220 0 = some (0, .getstatic 38, [1, 705]) := rfl
theorem s_220_0 {d : Nat} {σ : xS} {st : List Value} {Q : xR → xS → Prop} {l0 : Option Value} : G d 220 0 [l0] st σ Q ↔ G d 220 1 [l0] (.int 1 :: st) σ Q := gs_go f_220_0 rfl
theorem f_220_1 : ft 220 1 = some (3, .ifCond .eq 14, [7]) := rfl
theorem s_220_1 {d : Nat} {σ : xS} {st : List Value} {Q : xR → xS → Prop} {l0 : Option Value} {x : Int32} : G d 220 1 [l0] (.int x :: st) σ Q ↔ if x = 0 then G d 220 7 [l0] st σ Q else G d 220 2 [l0] st σ Q := gs_if f_220_1 rfl
theorem f_220_2 : ft 220 2 = some (6, .aload_n 0, []) := rfl
theorem s_220_2 {d : Nat} {σ : xS} {st : List Value} {Q : xR → xS → Prop} {x : Nat} : G d 220 2 [some (.ref x)] st σ Q ↔ G d 220 3 [some (.ref x)] (.ref x :: st) σ Q := gs_go f_220_2 rfl
theorem f_220_3 : ft 220 3 = some (7, .getfield 15, [100, 1, 0, 1670]) := rfl
theorem f_220_4 : ft 220 4 = some (10, .ifCond .ne 7, [7]) := rfl
theorem s_220_4 {d : Nat} {σ : xS} {st : List Value} {Q : xR → xS → Prop} {l0 : Option Value} {x : Int32} : G d 220 4 [l0] (.int x :: st) σ Q ↔ if x ≠ 0 then G d 220 7 [l0] st σ Q else G d 220 5 [l0] st σ Q := gs_if f_220_4 rfl
theorem f_220_5 : ft 220 5 = some (13, .iconst 1, []) := rfl
theorem s_220_5 {d : Nat} {σ : xS} {st : List Value} {Q : xR → xS → Prop} {l0 : Option Value} : G d 220 5 [l0] st σ Q ↔ G d 220 6 [l0] (.int (1) :: st) σ Q := gs_go f_220_5 rfl
theorem f_220_6 : ft 220 6 = some (14, .goto 4, [8]) := rfl
theorem s_220_6 {d : Nat} {σ : xS} {st : List Value} {Q : xR → xS → Prop} {l0 : Option Value} : G d 220 6 [l0] st σ Q ↔ G d 220 8 [l0] st σ Q := gs_go f_220_6 rfl
theorem f_220_7 : ft 220 7 = some (17, .iconst 0, []) := rfl
theorem s_220_7 {d : Nat} {σ : xS} {st : List Value} {Q : xR → xS → Prop} {l0 : Option Value} : G d 220 7 [l0] st σ Q ↔ G d 220 8 [l0] (.int (0) :: st) σ Q := gs_go f_220_7 rfl
theorem f_220_8 : ft 220 8 = some (18, .ireturn, []) := rfl
theorem s_220_8 {d : Nat} {σ : xS} {ls : xL} {Q : xR → xS → Prop} {x : Int32} : G d 220 8 ls [.int x] σ Q ↔ ybo x ∧ Q (.inl (some (.int x))) σ := gs_retb f_220_8 rfl
theorem f_221_0 : ft 221 0 = some (0, .iload_n 0, []) := rfl
theorem s_221_0 {d : Nat} {σ : xS} {st : List Value} {Q : xR → xS → Prop} {l1 : Option Value} {x : Int32} : G d 221 0 [some (.int x), l1] st σ Q ↔ G d 221 1 [some (.int x), l1] (.int x :: st) σ Q := gs_go f_221_0 rfl
theorem f_221_1 : ft 221 1 = some (1, .iload_n 1, []) := rfl
theorem s_221_1 {d : Nat} {σ : xS} {st : List Value} {Q : xR → xS → Prop} {l0 : Option Value} {x : Int32} : G d 221 1 [l0, some (.int x)] st σ Q ↔ G d 221 2 [l0, some (.int x)] (.int x :: st) σ Q := gs_go f_221_1 rfl
theorem f_221_2 : ft 221 2 = some (2, .getstatic 1053, [2, 721]) := rfl
theorem s_221_2 {d : Nat} {σ : xS} {st : List Value} {Q : xR → xS → Prop} {l0 l1 : Option Value} : G d 221 2 [l0, l1] st σ Q ↔ G d 221 3 [l0, l1] (.ref 1000002 :: st) σ Q := gs_go f_221_2 rfl
theorem f_221_3 : ft 221 3 = some (5, .invokestatic 1059, [225, 3, 1, 723]) := rfl
theorem s_221_3 {d : Nat} {σ : xS} {st : List Value} {Q : xR → xS → Prop} {l0 l1 : Option Value} {a0 : Int32} {a1 : Int32} {a2 : Nat} : G (d + 1) 221 3 [l0, l1] (.ref a2 :: .int a1 :: .int a0 :: st) σ Q ↔ xcat st ≤ 8 ∧ Cl d 225 [.int a0, .int a1, .ref a2] σ (Gk (d + 1) 221 3 [l0, l1] st Q) := gs_call f_221_3 ((xinv_call (i := 3) (n := 723) (ls := [l0, l1]) (kind := 1) (σ := σ) (by decide)).trans (xcall_st [.ref a2, .int a1, .int a0] rfl (by decide) (show (3 : Nat) ≤ 3 by decide)))
theorem f_221_4 : ft 221 4 = some (8, .pop, []) := rfl
theorem s_221_4 {d : Nat} {σ : xS} {st : List Value} {Q : xR → xS → Prop} {l0 l1 : Option Value} {x : Nat} : G d 221 4 [l0, l1] (.ref x :: st) σ Q ↔ G d 221 5 [l0, l1] st σ Q := gs_go f_221_4 rfl
theorem s_221_4i {d : Nat} {σ : xS} {st : List Value} {Q : xR → xS → Prop} {l0 l1 : Option Value} {x : Int32} : G d 221 4 [l0, l1] (.int x :: st) σ Q ↔ G d 221 5 [l0, l1] st σ Q := gs_go f_221_4 rfl
theorem f_221_5 : ft 221 5 = some (9, .return_, []) := rfl
theorem s_221_5 {d : Nat} {σ : xS} {ls : xL} {Q : xR → xS → Prop} : G d 221 5 ls [] σ Q ↔ Q (.inl none) σ := gs_ret f_221_5 rfl
theorem f_222_0 : ft 222 0 = some (0, .iload_n 1, []) := rfl
theorem s_222_0 {d : Nat} {σ : xS} {st : List Value} {Q : xR → xS → Prop} {l0 : Option Value} {x : Int32} : G d 222 0 [l0, some (.int x)] st σ Q ↔ G d 222 1 [l0, some (.int x)] (.int x :: st) σ Q := gs_go f_222_0 rfl
theorem f_222_1 : ft 222 1 = some (1, .aload_n 0, []) := rfl
theorem s_222_1 {d : Nat} {σ : xS} {st : List Value} {Q : xR → xS → Prop} {l1 : Option Value} {x : Nat} : G d 222 1 [some (.ref x), l1] st σ Q ↔ G d 222 2 [some (.ref x), l1] (.ref x :: st) σ Q := gs_go f_222_1 rfl
theorem f_222_2 : ft 222 2 = some (2, .arraylength, []) := rfl
theorem f_222_3 : ft 222 3 = some (3, .invokestatic 9, [221, 2, 1, 718]) := rfl
theorem s_222_3 {d : Nat} {σ : xS} {st : List Value} {Q : xR → xS → Prop} {l0 l1 : Option Value} {a0 : Int32} {a1 : Int32} : G (d + 1) 222 3 [l0, l1] (.int a1 :: .int a0 :: st) σ Q ↔ xcat st ≤ 8 ∧ Cl d 221 [.int a0, .int a1] σ (Gk (d + 1) 222 3 [l0, l1] st Q) := gs_call f_222_3 ((xinv_call (i := 3) (n := 718) (ls := [l0, l1]) (kind := 1) (σ := σ) (by decide)).trans (xcall_st [.int a1, .int a0] rfl (by decide) (show (2 : Nat) ≤ 2 by decide)))
theorem f_222_4 : ft 222 4 = some (6, .aload_n 0, []) := rfl
theorem s_222_4 {d : Nat} {σ : xS} {st : List Value} {Q : xR → xS → Prop} {l1 : Option Value} {x : Nat} : G d 222 4 [some (.ref x), l1] st σ Q ↔ G d 222 5 [some (.ref x), l1] (.ref x :: st) σ Q := gs_go f_222_4 rfl
theorem f_222_5 : ft 222 5 = some (7, .iload_n 1, []) := rfl
theorem s_222_5 {d : Nat} {σ : xS} {st : List Value} {Q : xR → xS → Prop} {l0 : Option Value} {x : Int32} : G d 222 5 [l0, some (.int x)] st σ Q ↔ G d 222 6 [l0, some (.int x)] (.int x :: st) σ Q := gs_go f_222_5 rfl
theorem f_222_6 : ft 222 6 = some (8, .baload, []) := rfl
theorem f_222_7 : ft 222 7 = some (9, .sipush 255, []) := rfl
theorem s_222_7 {d : Nat} {σ : xS} {st : List Value} {Q : xR → xS → Prop} {l0 l1 : Option Value} : G d 222 7 [l0, l1] st σ Q ↔ G d 222 8 [l0, l1] (.int (255) :: st) σ Q := gs_go f_222_7 rfl
theorem f_222_8 : ft 222 8 = some (12, .iand, []) := rfl
theorem s_222_8 {d : Nat} {σ : xS} {st : List Value} {Q : xR → xS → Prop} {l0 l1 : Option Value} {x y : Int32} : G d 222 8 [l0, l1] (.int y :: .int x :: st) σ Q ↔ G d 222 9 [l0, l1] (.int (x &&& y) :: st) σ Q := gs_go f_222_8 rfl
theorem f_222_9 : ft 222 9 = some (13, .i2c, []) := rfl
theorem s_222_9 {d : Nat} {σ : xS} {st : List Value} {Q : xR → xS → Prop} {l0 l1 : Option Value} {x : Int32} : G d 222 9 [l0, l1] (.int x :: st) σ Q ↔ G d 222 10 [l0, l1] (.int (x.toUInt32 % 65536).toInt32 :: st) σ Q := gs_go f_222_9 rfl
theorem f_222_10 : ft 222 10 = some (14, .ireturn, []) := rfl
theorem f_223_0 : ft 223 0 = some (0, .iconst 0, []) := rfl
theorem s_223_0 {d : Nat} {σ : xS} {st : List Value} {Q : xR → xS → Prop} {l0 l1 l2 l3 : Option Value} : G d 223 0 [l0, l1, l2, l3] st σ Q ↔ G d 223 1 [l0, l1, l2, l3] (.int (0) :: st) σ Q := gs_go f_223_0 rfl
theorem f_223_1 : ft 223 1 = some (1, .istore_n 2, []) := rfl
theorem s_223_1 {d : Nat} {σ : xS} {st : List Value} {Q : xR → xS → Prop} {l0 l1 l2 l3 : Option Value} {x : Int32} : G d 223 1 [l0, l1, l2, l3] (.int x :: st) σ Q ↔ G d 223 2 [l0, ykl l1, some (.int x), l3] st σ Q := by
  cases l1 with
  | none => exact gs_go f_223_1 rfl
  | some v => cases v <;> exact gs_go f_223_1 rfl
theorem f_223_2 : ft 223 2 = some (2, .aload_n 0, []) := rfl
theorem s_223_2 {d : Nat} {σ : xS} {st : List Value} {Q : xR → xS → Prop} {l1 l2 l3 : Option Value} {x : Nat} : G d 223 2 [some (.ref x), l1, l2, l3] st σ Q ↔ G d 223 3 [some (.ref x), l1, l2, l3] (.ref x :: st) σ Q := gs_go f_223_2 rfl
theorem f_223_3 : ft 223 3 = some (3, .arraylength, []) := rfl
theorem f_223_4 : ft 223 4 = some (4, .istore_n 3, []) := rfl
theorem s_223_4 {d : Nat} {σ : xS} {st : List Value} {Q : xR → xS → Prop} {l0 l1 l2 l3 : Option Value} {x : Int32} : G d 223 4 [l0, l1, l2, l3] (.int x :: st) σ Q ↔ G d 223 5 [l0, l1, ykl l2, some (.int x)] st σ Q := by
  cases l2 with
  | none => exact gs_go f_223_4 rfl
  | some v => cases v <;> exact gs_go f_223_4 rfl
theorem f_223_5 : ft 223 5 = some (5, .iload_n 2, []) := rfl
theorem s_223_5 {d : Nat} {σ : xS} {st : List Value} {Q : xR → xS → Prop} {l0 l1 l3 : Option Value} {x : Int32} : G d 223 5 [l0, l1, some (.int x), l3] st σ Q ↔ G d 223 6 [l0, l1, some (.int x), l3] (.int x :: st) σ Q := gs_go f_223_5 rfl
theorem f_223_6 : ft 223 6 = some (6, .iload_n 3, []) := rfl
theorem s_223_6 {d : Nat} {σ : xS} {st : List Value} {Q : xR → xS → Prop} {l0 l1 l2 : Option Value} {x : Int32} : G d 223 6 [l0, l1, l2, some (.int x)] st σ Q ↔ G d 223 7 [l0, l1, l2, some (.int x)] (.int x :: st) σ Q := gs_go f_223_6 rfl
theorem f_223_7 : ft 223 7 = some (7, .if_icmp .ge 13, [14]) := rfl
theorem s_223_7 {d : Nat} {σ : xS} {st : List Value} {Q : xR → xS → Prop} {l0 l1 l2 l3 : Option Value} {x y : Int32} : G d 223 7 [l0, l1, l2, l3] (.int y :: .int x :: st) σ Q ↔ if y ≤ x then G d 223 14 [l0, l1, l2, l3] st σ Q else G d 223 8 [l0, l1, l2, l3] st σ Q := gs_if f_223_7 rfl
theorem f_223_8 : ft 223 8 = some (10, .aload_n 0, []) := rfl
theorem s_223_8 {d : Nat} {σ : xS} {st : List Value} {Q : xR → xS → Prop} {l1 l2 l3 : Option Value} {x : Nat} : G d 223 8 [some (.ref x), l1, l2, l3] st σ Q ↔ G d 223 9 [some (.ref x), l1, l2, l3] (.ref x :: st) σ Q := gs_go f_223_8 rfl
theorem f_223_9 : ft 223 9 = some (11, .iload_n 2, []) := rfl
theorem s_223_9 {d : Nat} {σ : xS} {st : List Value} {Q : xR → xS → Prop} {l0 l1 l3 : Option Value} {x : Int32} : G d 223 9 [l0, l1, some (.int x), l3] st σ Q ↔ G d 223 10 [l0, l1, some (.int x), l3] (.int x :: st) σ Q := gs_go f_223_9 rfl
theorem f_223_10 : ft 223 10 = some (12, .iload_n 1, []) := rfl
theorem s_223_10 {d : Nat} {σ : xS} {st : List Value} {Q : xR → xS → Prop} {l0 l2 l3 : Option Value} {x : Int32} : G d 223 10 [l0, some (.int x), l2, l3] st σ Q ↔ G d 223 11 [l0, some (.int x), l2, l3] (.int x :: st) σ Q := gs_go f_223_10 rfl
theorem f_223_11 : ft 223 11 = some (13, .iastore, []) := rfl
theorem s_223_11 {d : Nat} {t : yT} {st : List Value} {Q : xR → xS → Prop} {l0 l1 l2 l3 : Option Value} {a : Nat} {x v : Int32} (ha : yA 0 a) : G d 223 11 [l0, l1, l2, l3] (.int v :: .int x :: .ref a :: st) (yemb t) Q ↔ yix x (yn a) ∧ G d 223 12 [l0, l1, l2, l3] st (yemb (t.s1 a x.toNatClampNeg v)) Q := gs_iast f_223_11 ha
theorem f_223_12 : ft 223 12 = some (14, .iinc 2 1, []) := rfl
theorem s_223_12 {d : Nat} {σ : xS} {st : List Value} {Q : xR → xS → Prop} {l0 l1 l3 : Option Value} {x : Int32} : G d 223 12 [l0, l1, some (.int x), l3] st σ Q ↔ G d 223 13 [l0, ykl l1, some (.int (x + 1)), l3] st σ Q := by
  cases l1 with
  | none => exact gs_go f_223_12 rfl
  | some v => cases v <;> exact gs_go f_223_12 rfl
theorem f_223_13 : ft 223 13 = some (17, .goto (-12), [5]) := rfl
theorem s_223_13 {d : Nat} {σ : xS} {st : List Value} {Q : xR → xS → Prop} {l0 l1 l2 l3 : Option Value} : G d 223 13 [l0, l1, l2, l3] st σ Q ↔ G d 223 5 [l0, l1, l2, l3] st σ Q := gs_go f_223_13 rfl
theorem f_223_14 : ft 223 14 = some (20, .return_, []) := rfl
theorem s_223_14 {d : Nat} {σ : xS} {ls : xL} {Q : xR → xS → Prop} : G d 223 14 ls [] σ Q ↔ Q (.inl none) σ := gs_ret f_223_14 rfl
theorem f_224_0 : ft 224 0 = some (0, .iload_n 1, []) := rfl
theorem s_224_0 {d : Nat} {σ : xS} {st : List Value} {Q : xR → xS → Prop} {l0 l2 : Option Value} {x : Int32} : G d 224 0 [l0, some (.int x), l2] st σ Q ↔ G d 224 1 [l0, some (.int x), l2] (.int x :: st) σ Q := gs_go f_224_0 rfl
theorem f_224_1 : ft 224 1 = some (1, .aload_n 0, []) := rfl
theorem s_224_1 {d : Nat} {σ : xS} {st : List Value} {Q : xR → xS → Prop} {l1 l2 : Option Value} {x : Nat} : G d 224 1 [some (.ref x), l1, l2] st σ Q ↔ G d 224 2 [some (.ref x), l1, l2] (.ref x :: st) σ Q := gs_go f_224_1 rfl
theorem f_224_2 : ft 224 2 = some (2, .arraylength, []) := rfl
theorem f_224_3 : ft 224 3 = some (3, .if_icmp .ne 11, [8]) := rfl
theorem s_224_3 {d : Nat} {σ : xS} {st : List Value} {Q : xR → xS → Prop} {l0 l1 l2 : Option Value} {x y : Int32} : G d 224 3 [l0, l1, l2] (.int y :: .int x :: st) σ Q ↔ if x ≠ y then G d 224 8 [l0, l1, l2] st σ Q else G d 224 4 [l0, l1, l2] st σ Q := gs_if f_224_3 rfl
theorem f_224_4 : ft 224 4 = some (6, .aload_n 0, []) := rfl
theorem s_224_4 {d : Nat} {σ : xS} {st : List Value} {Q : xR → xS → Prop} {l1 l2 : Option Value} {x : Nat} : G d 224 4 [some (.ref x), l1, l2] st σ Q ↔ G d 224 5 [some (.ref x), l1, l2] (.ref x :: st) σ Q := gs_go f_224_4 rfl
theorem f_224_5 : ft 224 5 = some (7, .invokevirtual 316, [0, 1, 22, 859]) := rfl
theorem f_224_6 : ft 224 6 = some (10, .checkcast 317, [865]) := rfl
theorem f_224_7 : ft 224 7 = some (13, .areturn, []) := rfl
theorem s_224_7 {d : Nat} {σ : xS} {ls : xL} {Q : xR → xS → Prop} {x : Nat} : G d 224 7 ls [.ref x] σ Q ↔ Q (.inl (some (.ref x))) σ := gs_ret f_224_7 rfl
theorem f_224_8 : ft 224 8 = some (14, .iload_n 1, []) := rfl
theorem s_224_8 {d : Nat} {σ : xS} {st : List Value} {Q : xR → xS → Prop} {l0 l2 : Option Value} {x : Int32} : G d 224 8 [l0, some (.int x), l2] st σ Q ↔ G d 224 9 [l0, some (.int x), l2] (.int x :: st) σ Q := gs_go f_224_8 rfl
theorem f_224_9 : ft 224 9 = some (15, .newarray .int, [0]) := rfl
theorem f_224_10 : ft 224 10 = some (17, .astore_n 2, []) := rfl
theorem s_224_10 {d : Nat} {σ : xS} {st : List Value} {Q : xR → xS → Prop} {l0 l1 l2 : Option Value} {x : Nat} (h : x < 1000000) : G d 224 10 [l0, l1, l2] (.ref x :: st) σ Q ↔ G d 224 11 [l0, ykl l1, some (.ref x)] st σ Q := by
  cases l1 with
  | none => exact gs_go f_224_10 (if_pos ⟨(show (2 : Nat) < 3 by decide), h⟩)
  | some v => cases v <;> exact gs_go f_224_10 (if_pos ⟨(show (2 : Nat) < 3 by decide), h⟩)
theorem f_224_11 : ft 224 11 = some (18, .aload_n 0, []) := rfl
theorem s_224_11 {d : Nat} {σ : xS} {st : List Value} {Q : xR → xS → Prop} {l1 l2 : Option Value} {x : Nat} : G d 224 11 [some (.ref x), l1, l2] st σ Q ↔ G d 224 12 [some (.ref x), l1, l2] (.ref x :: st) σ Q := gs_go f_224_11 rfl
theorem f_224_12 : ft 224 12 = some (19, .iconst 0, []) := rfl
theorem s_224_12 {d : Nat} {σ : xS} {st : List Value} {Q : xR → xS → Prop} {l0 l1 l2 : Option Value} : G d 224 12 [l0, l1, l2] st σ Q ↔ G d 224 13 [l0, l1, l2] (.int (0) :: st) σ Q := gs_go f_224_12 rfl
theorem f_224_13 : ft 224 13 = some (20, .aload_n 2, []) := rfl
theorem s_224_13 {d : Nat} {σ : xS} {st : List Value} {Q : xR → xS → Prop} {l0 l1 : Option Value} {x : Nat} : G d 224 13 [l0, l1, some (.ref x)] st σ Q ↔ G d 224 14 [l0, l1, some (.ref x)] (.ref x :: st) σ Q := gs_go f_224_13 rfl
theorem f_224_14 : ft 224 14 = some (21, .iconst 0, []) := rfl
theorem s_224_14 {d : Nat} {σ : xS} {st : List Value} {Q : xR → xS → Prop} {l0 l1 l2 : Option Value} : G d 224 14 [l0, l1, l2] st σ Q ↔ G d 224 15 [l0, l1, l2] (.int (0) :: st) σ Q := gs_go f_224_14 rfl
theorem f_224_15 : ft 224 15 = some (22, .aload_n 0, []) := rfl
theorem s_224_15 {d : Nat} {σ : xS} {st : List Value} {Q : xR → xS → Prop} {l1 l2 : Option Value} {x : Nat} : G d 224 15 [some (.ref x), l1, l2] st σ Q ↔ G d 224 16 [some (.ref x), l1, l2] (.ref x :: st) σ Q := gs_go f_224_15 rfl
theorem f_224_16 : ft 224 16 = some (23, .arraylength, []) := rfl
theorem f_224_17 : ft 224 17 = some (24, .iload_n 1, []) := rfl
theorem s_224_17 {d : Nat} {σ : xS} {st : List Value} {Q : xR → xS → Prop} {l0 l2 : Option Value} {x : Int32} : G d 224 17 [l0, some (.int x), l2] st σ Q ↔ G d 224 18 [l0, some (.int x), l2] (.int x :: st) σ Q := gs_go f_224_17 rfl
theorem f_224_18 : ft 224 18 = some (25, .invokestatic 304, [0, 2, 25, 866]) := rfl
theorem s_224_18 {d : Nat} {σ : xS} {st : List Value} {Q : xR → xS → Prop} {l0 l1 l2 : Option Value} {x y : Int32} (h : xcat st ≤ 8) : G d 224 18 [l0, l1, l2] (.int y :: .int x :: st) σ Q ↔ G d 224 19 [l0, l1, l2] (.int (if y < x then y else x) :: st) σ Q := gs_go f_224_18 (if_pos h)
theorem f_224_19 : ft 224 19 = some (28, .invokestatic 150, [0, 5, 21, 867]) := rfl
theorem f_224_20 : ft 224 20 = some (31, .aload_n 2, []) := rfl
theorem s_224_20 {d : Nat} {σ : xS} {st : List Value} {Q : xR → xS → Prop} {l0 l1 : Option Value} {x : Nat} : G d 224 20 [l0, l1, some (.ref x)] st σ Q ↔ G d 224 21 [l0, l1, some (.ref x)] (.ref x :: st) σ Q := gs_go f_224_20 rfl
theorem f_224_21 : ft 224 21 = some (32, .areturn, []) := rfl
theorem s_224_21 {d : Nat} {σ : xS} {ls : xL} {Q : xR → xS → Prop} {x : Nat} : G d 224 21 ls [.ref x] σ Q ↔ Q (.inl (some (.ref x))) σ := gs_ret f_224_21 rfl
theorem f_225_0 : ft 225 0 = some (0, .iload_n 0, []) := rfl
theorem s_225_0 {d : Nat} {σ : xS} {st : List Value} {Q : xR → xS → Prop} {l1 l2 : Option Value} {x : Int32} : G d 225 0 [some (.int x), l1, l2] st σ Q ↔ G d 225 1 [some (.int x), l1, l2] (.int x :: st) σ Q := gs_go f_225_0 rfl
theorem f_225_1 : ft 225 1 = some (1, .ifCond .lt 8, [5]) := rfl
theorem s_225_1 {d : Nat} {σ : xS} {st : List Value} {Q : xR → xS → Prop} {l0 l1 l2 : Option Value} {x : Int32} : G d 225 1 [l0, l1, l2] (.int x :: st) σ Q ↔ if x < 0 then G d 225 5 [l0, l1, l2] st σ Q else G d 225 2 [l0, l1, l2] st σ Q := gs_if f_225_1 rfl
theorem f_225_2 : ft 225 2 = some (4, .iload_n 0, []) := rfl
theorem s_225_2 {d : Nat} {σ : xS} {st : List Value} {Q : xR → xS → Prop} {l1 l2 : Option Value} {x : Int32} : G d 225 2 [some (.int x), l1, l2] st σ Q ↔ G d 225 3 [some (.int x), l1, l2] (.int x :: st) σ Q := gs_go f_225_2 rfl
theorem f_225_3 : ft 225 3 = some (5, .iload_n 1, []) := rfl
theorem s_225_3 {d : Nat} {σ : xS} {st : List Value} {Q : xR → xS → Prop} {l0 l2 : Option Value} {x : Int32} : G d 225 3 [l0, some (.int x), l2] st σ Q ↔ G d 225 4 [l0, some (.int x), l2] (.int x :: st) σ Q := gs_go f_225_3 rfl
theorem f_225_4 : ft 225 4 = some (6, .if_icmp .lt 10, [10]) := rfl
theorem s_225_4 {d : Nat} {σ : xS} {st : List Value} {Q : xR → xS → Prop} {l0 l1 l2 : Option Value} {x y : Int32} : G d 225 4 [l0, l1, l2] (.int y :: .int x :: st) σ Q ↔ if x < y then G d 225 10 [l0, l1, l2] st σ Q else G d 225 5 [l0, l1, l2] st σ Q := gs_if f_225_4 rfl
theorem f_225_5 : ft 225 5 = some (9, .aload_n 2, []) := rfl
theorem s_225_5 {d : Nat} {σ : xS} {st : List Value} {Q : xR → xS → Prop} {l0 l1 : Option Value} {x : Nat} : G d 225 5 [l0, l1, some (.ref x)] st σ Q ↔ G d 225 6 [l0, l1, some (.ref x)] (.ref x :: st) σ Q := gs_go f_225_5 rfl
theorem f_225_6 : ft 225 6 = some (10, .iload_n 0, []) := rfl
theorem s_225_6 {d : Nat} {σ : xS} {st : List Value} {Q : xR → xS → Prop} {l1 l2 : Option Value} {x : Int32} : G d 225 6 [some (.int x), l1, l2] st σ Q ↔ G d 225 7 [some (.int x), l1, l2] (.int x :: st) σ Q := gs_go f_225_6 rfl
theorem f_225_7 : ft 225 7 = some (11, .iload_n 1, []) := rfl
theorem s_225_7 {d : Nat} {σ : xS} {st : List Value} {Q : xR → xS → Prop} {l0 l2 : Option Value} {x : Int32} : G d 225 7 [l0, some (.int x), l2] st σ Q ↔ G d 225 8 [l0, some (.int x), l2] (.int x :: st) σ Q := gs_go f_225_7 rfl
theorem f_225_8 : ft 225 8 = some (12, .invokestatic 95, [0, 0, 99, 0]) := rfl
theorem f_225_9 : ft 225 9 = some (15, .athrow, []) := rfl
theorem f_225_10 : ft 225 10 = some (16, .iload_n 0, []) := rfl
theorem s_225_10 {d : Nat} {σ : xS} {st : List Value} {Q : xR → xS → Prop} {l1 l2 : Option Value} {x : Int32} : G d 225 10 [some (.int x), l1, l2] st σ Q ↔ G d 225 11 [some (.int x), l1, l2] (.int x :: st) σ Q := gs_go f_225_10 rfl
theorem f_225_11 : ft 225 11 = some (17, .ireturn, []) := rfl
theorem s_225_11 {d : Nat} {σ : xS} {ls : xL} {Q : xR → xS → Prop} {x : Int32} : G d 225 11 ls [.int x] σ Q ↔ Q (.inl (some (.int x))) σ := gs_reti f_225_11 rfl
theorem f_226_0 : ft 226 0 = some (0, .aload_n 2, []) := rfl
theorem s_226_0 {d : Nat} {σ : xS} {st : List Value} {Q : xR → xS → Prop} {l0 l1 l3 : Option Value} {x : Nat} : G d 226 0 [l0, l1, some (.ref x), l3] st σ Q ↔ G d 226 1 [l0, l1, some (.ref x), l3] (.ref x :: st) σ Q := gs_go f_226_0 rfl
theorem f_226_1 : ft 226 1 = some (1, .iconst 0, []) := rfl
theorem s_226_1 {d : Nat} {σ : xS} {st : List Value} {Q : xR → xS → Prop} {l0 l1 l2 l3 : Option Value} : G d 226 1 [l0, l1, l2, l3] st σ Q ↔ G d 226 2 [l0, l1, l2, l3] (.int (0) :: st) σ Q := gs_go f_226_1 rfl
theorem f_226_2 : ft 226 2 = some (2, .aload_n 0, []) := rfl
theorem s_226_2 {d : Nat} {σ : xS} {st : List Value} {Q : xR → xS → Prop} {l1 l2 l3 : Option Value} {x : Nat} : G d 226 2 [some (.ref x), l1, l2, l3] st σ Q ↔ G d 226 3 [some (.ref x), l1, l2, l3] (.ref x :: st) σ Q := gs_go f_226_2 rfl
theorem f_226_3 : ft 226 3 = some (3, .iload_n 1, []) := rfl
theorem s_226_3 {d : Nat} {σ : xS} {st : List Value} {Q : xR → xS → Prop} {l0 l2 l3 : Option Value} {x : Int32} : G d 226 3 [l0, some (.int x), l2, l3] st σ Q ↔ G d 226 4 [l0, some (.int x), l2, l3] (.int x :: st) σ Q := gs_go f_226_3 rfl
theorem f_226_4 : ft 226 4 = some (4, .invokevirtual 7, [95, 2, 0, 655]) := rfl
theorem s_226_4 {d : Nat} {t : yT} {st : List Value} {Q : xR → xS → Prop} {l0 l1 l2 l3 : Option Value} {a0 : Nat} {a1 : Int32} (ho : yisO 7 a0) : G (d + 1) 226 4 [l0, l1, l2, l3] (.int a1 :: .ref a0 :: st) (yemb t) Q ↔ xcat st ≤ 8 ∧ Cl d 95 [.ref a0, .int a1] (yemb t) (Gk (d + 1) 226 4 [l0, l1, l2, l3] st Q) := gs_call f_226_4 ((xinv_call (i := 4) (n := 655) (ls := [l0, l1, l2, l3]) (kind := 0) (σ := yemb t) (by decide)).trans (xcall_vi [.int a1, .ref a0] rfl rfl (show (2 : Nat) ≤ 3 by decide) rfl ho))
theorem f_226_5 : ft 226 5 = some (7, .i2l, []) := rfl
theorem s_226_5 {d : Nat} {σ : xS} {st : List Value} {Q : xR → xS → Prop} {l0 l1 l2 l3 : Option Value} {x : Int32} : G d 226 5 [l0, l1, l2, l3] (.int x :: st) σ Q ↔ G d 226 6 [l0, l1, l2, l3] (.long x.toInt64 :: st) σ Q := gs_go f_226_5 rfl
theorem f_226_6 : ft 226 6 = some (8, .lastore, []) := rfl
theorem s_226_6 {d : Nat} {t : yT} {st : List Value} {Q : xR → xS → Prop} {l0 l1 l2 l3 : Option Value} {a : Nat} {x : Int32} {v : Int64} (ha : yLA a) : G d 226 6 [l0, l1, l2, l3] (.long v :: .int x :: .ref a :: st) (yemb t) Q ↔ yix x (yn a) ∧ G d 226 7 [l0, l1, l2, l3] st (yemb (t.sL a x.toNatClampNeg v)) Q := gs_last f_226_6 ha
theorem f_226_7 : ft 226 7 = some (9, .goto 6, [11]) := rfl
theorem s_226_7 {d : Nat} {σ : xS} {st : List Value} {Q : xR → xS → Prop} {l0 l1 l2 l3 : Option Value} : G d 226 7 [l0, l1, l2, l3] st σ Q ↔ G d 226 11 [l0, l1, l2, l3] st σ Q := gs_go f_226_7 rfl
theorem f_226_8 : ft 226 8 = some (12, .astore_n 3, []) := rfl
theorem s_226_8 {d : Nat} {σ : xS} {st : List Value} {Q : xR → xS → Prop} {l0 l1 l2 l3 : Option Value} {x : Nat} (h : x < 1000000) : G d 226 8 [l0, l1, l2, l3] (.ref x :: st) σ Q ↔ G d 226 9 [l0, l1, ykl l2, some (.ref x)] st σ Q := by
  cases l2 with
  | none => exact gs_go f_226_8 (if_pos ⟨(show (3 : Nat) < 4 by decide), h⟩)
  | some v => cases v <;> exact gs_go f_226_8 (if_pos ⟨(show (3 : Nat) < 4 by decide), h⟩)
theorem f_226_9 : ft 226 9 = some (13, .iconst 1, []) := rfl
theorem s_226_9 {d : Nat} {σ : xS} {st : List Value} {Q : xR → xS → Prop} {l0 l1 l2 l3 : Option Value} : G d 226 9 [l0, l1, l2, l3] st σ Q ↔ G d 226 10 [l0, l1, l2, l3] (.int (1) :: st) σ Q := gs_go f_226_9 rfl
theorem f_226_10 : ft 226 10 = some (14, .ireturn, []) := rfl
theorem s_226_10 {d : Nat} {σ : xS} {ls : xL} {Q : xR → xS → Prop} {x : Int32} : G d 226 10 ls [.int x] σ Q ↔ Q (.inl (some (.int x))) σ := gs_reti f_226_10 rfl
theorem f_226_11 : ft 226 11 = some (15, .iconst 0, []) := rfl
theorem s_226_11 {d : Nat} {σ : xS} {st : List Value} {Q : xR → xS → Prop} {l0 l1 l2 l3 : Option Value} : G d 226 11 [l0, l1, l2, l3] st σ Q ↔ G d 226 12 [l0, l1, l2, l3] (.int (0) :: st) σ Q := gs_go f_226_11 rfl
theorem f_226_12 : ft 226 12 = some (16, .ireturn, []) := rfl
theorem s_226_12 {d : Nat} {σ : xS} {ls : xL} {Q : xR → xS → Prop} {x : Int32} : G d 226 12 ls [.int x] σ Q ↔ Q (.inl (some (.int x))) σ := gs_reti f_226_12 rfl
theorem f_227_0 : ft 227 0 = some (0, .aload_n 2, []) := rfl
theorem s_227_0 {d : Nat} {σ : xS} {st : List Value} {Q : xR → xS → Prop} {l0 l1 l3 : Option Value} {x : Nat} : G d 227 0 [l0, l1, some (.ref x), l3] st σ Q ↔ G d 227 1 [l0, l1, some (.ref x), l3] (.ref x :: st) σ Q := gs_go f_227_0 rfl
theorem f_227_1 : ft 227 1 = some (1, .iconst 0, []) := rfl
theorem s_227_1 {d : Nat} {σ : xS} {st : List Value} {Q : xR → xS → Prop} {l0 l1 l2 l3 : Option Value} : G d 227 1 [l0, l1, l2, l3] st σ Q ↔ G d 227 2 [l0, l1, l2, l3] (.int (0) :: st) σ Q := gs_go f_227_1 rfl
theorem f_227_2 : ft 227 2 = some (2, .aload_n 0, []) := rfl
theorem s_227_2 {d : Nat} {σ : xS} {st : List Value} {Q : xR → xS → Prop} {l1 l2 l3 : Option Value} {x : Nat} : G d 227 2 [some (.ref x), l1, l2, l3] st σ Q ↔ G d 227 3 [some (.ref x), l1, l2, l3] (.ref x :: st) σ Q := gs_go f_227_2 rfl
theorem f_227_3 : ft 227 3 = some (3, .iload_n 1, []) := rfl
theorem s_227_3 {d : Nat} {σ : xS} {st : List Value} {Q : xR → xS → Prop} {l0 l2 l3 : Option Value} {x : Int32} : G d 227 3 [l0, some (.int x), l2, l3] st σ Q ↔ G d 227 4 [l0, some (.int x), l2, l3] (.int x :: st) σ Q := gs_go f_227_3 rfl
theorem f_227_4 : ft 227 4 = some (4, .invokevirtual 15, [96, 2, 0, 894]) := rfl
theorem s_227_4 {d : Nat} {t : yT} {st : List Value} {Q : xR → xS → Prop} {l0 l1 l2 l3 : Option Value} {a0 : Nat} {a1 : Int32} (ho : yisO 7 a0) : G (d + 1) 227 4 [l0, l1, l2, l3] (.int a1 :: .ref a0 :: st) (yemb t) Q ↔ xcat st ≤ 8 ∧ Cl d 96 [.ref a0, .int a1] (yemb t) (Gk (d + 1) 227 4 [l0, l1, l2, l3] st Q) := gs_call f_227_4 ((xinv_call (i := 4) (n := 894) (ls := [l0, l1, l2, l3]) (kind := 0) (σ := yemb t) (by decide)).trans (xcall_vi [.int a1, .ref a0] rfl rfl (show (2 : Nat) ≤ 3 by decide) rfl ho))
theorem f_227_5 : ft 227 5 = some (7, .i2l, []) := rfl
theorem s_227_5 {d : Nat} {σ : xS} {st : List Value} {Q : xR → xS → Prop} {l0 l1 l2 l3 : Option Value} {x : Int32} : G d 227 5 [l0, l1, l2, l3] (.int x :: st) σ Q ↔ G d 227 6 [l0, l1, l2, l3] (.long x.toInt64 :: st) σ Q := gs_go f_227_5 rfl
theorem f_227_6 : ft 227 6 = some (8, .lastore, []) := rfl
theorem s_227_6 {d : Nat} {t : yT} {st : List Value} {Q : xR → xS → Prop} {l0 l1 l2 l3 : Option Value} {a : Nat} {x : Int32} {v : Int64} (ha : yLA a) : G d 227 6 [l0, l1, l2, l3] (.long v :: .int x :: .ref a :: st) (yemb t) Q ↔ yix x (yn a) ∧ G d 227 7 [l0, l1, l2, l3] st (yemb (t.sL a x.toNatClampNeg v)) Q := gs_last f_227_6 ha
theorem f_227_7 : ft 227 7 = some (9, .goto 6, [11]) := rfl
theorem s_227_7 {d : Nat} {σ : xS} {st : List Value} {Q : xR → xS → Prop} {l0 l1 l2 l3 : Option Value} : G d 227 7 [l0, l1, l2, l3] st σ Q ↔ G d 227 11 [l0, l1, l2, l3] st σ Q := gs_go f_227_7 rfl
theorem f_227_8 : ft 227 8 = some (12, .astore_n 3, []) := rfl
theorem s_227_8 {d : Nat} {σ : xS} {st : List Value} {Q : xR → xS → Prop} {l0 l1 l2 l3 : Option Value} {x : Nat} (h : x < 1000000) : G d 227 8 [l0, l1, l2, l3] (.ref x :: st) σ Q ↔ G d 227 9 [l0, l1, ykl l2, some (.ref x)] st σ Q := by
  cases l2 with
  | none => exact gs_go f_227_8 (if_pos ⟨(show (3 : Nat) < 4 by decide), h⟩)
  | some v => cases v <;> exact gs_go f_227_8 (if_pos ⟨(show (3 : Nat) < 4 by decide), h⟩)
theorem f_227_9 : ft 227 9 = some (13, .iconst 1, []) := rfl
theorem s_227_9 {d : Nat} {σ : xS} {st : List Value} {Q : xR → xS → Prop} {l0 l1 l2 l3 : Option Value} : G d 227 9 [l0, l1, l2, l3] st σ Q ↔ G d 227 10 [l0, l1, l2, l3] (.int (1) :: st) σ Q := gs_go f_227_9 rfl
theorem f_227_10 : ft 227 10 = some (14, .ireturn, []) := rfl
theorem s_227_10 {d : Nat} {σ : xS} {ls : xL} {Q : xR → xS → Prop} {x : Int32} : G d 227 10 ls [.int x] σ Q ↔ Q (.inl (some (.int x))) σ := gs_reti f_227_10 rfl
theorem f_227_11 : ft 227 11 = some (15, .iconst 0, []) := rfl
theorem s_227_11 {d : Nat} {σ : xS} {st : List Value} {Q : xR → xS → Prop} {l0 l1 l2 l3 : Option Value} : G d 227 11 [l0, l1, l2, l3] st σ Q ↔ G d 227 12 [l0, l1, l2, l3] (.int (0) :: st) σ Q := gs_go f_227_11 rfl
theorem f_227_12 : ft 227 12 = some (16, .ireturn, []) := rfl
theorem s_227_12 {d : Nat} {σ : xS} {ls : xL} {Q : xR → xS → Prop} {x : Int32} : G d 227 12 ls [.int x] σ Q ↔ Q (.inl (some (.int x))) σ := gs_reti f_227_12 rfl
theorem f_228_0 : ft 228 0 = some (0, .aload_n 2, []) := rfl
theorem s_228_0 {d : Nat} {σ : xS} {st : List Value} {Q : xR → xS → Prop} {l0 l1 l3 : Option Value} {x : Nat} : G d 228 0 [l0, l1, some (.ref x), l3] st σ Q ↔ G d 228 1 [l0, l1, some (.ref x), l3] (.ref x :: st) σ Q := gs_go f_228_0 rfl
theorem f_228_1 : ft 228 1 = some (1, .iconst 0, []) := rfl
theorem s_228_1 {d : Nat} {σ : xS} {st : List Value} {Q : xR → xS → Prop} {l0 l1 l2 l3 : Option Value} : G d 228 1 [l0, l1, l2, l3] st σ Q ↔ G d 228 2 [l0, l1, l2, l3] (.int (0) :: st) σ Q := gs_go f_228_1 rfl
theorem f_228_2 : ft 228 2 = some (2, .aload_n 0, []) := rfl
theorem s_228_2 {d : Nat} {σ : xS} {st : List Value} {Q : xR → xS → Prop} {l1 l2 l3 : Option Value} {x : Nat} : G d 228 2 [some (.ref x), l1, l2, l3] st σ Q ↔ G d 228 3 [some (.ref x), l1, l2, l3] (.ref x :: st) σ Q := gs_go f_228_2 rfl
theorem f_228_3 : ft 228 3 = some (3, .iload_n 1, []) := rfl
theorem s_228_3 {d : Nat} {σ : xS} {st : List Value} {Q : xR → xS → Prop} {l0 l2 l3 : Option Value} {x : Int32} : G d 228 3 [l0, some (.int x), l2, l3] st σ Q ↔ G d 228 4 [l0, some (.int x), l2, l3] (.int x :: st) σ Q := gs_go f_228_3 rfl
theorem f_228_4 : ft 228 4 = some (4, .invokevirtual 18, [99, 2, 0, 1010]) := rfl
theorem s_228_4 {d : Nat} {t : yT} {st : List Value} {Q : xR → xS → Prop} {l0 l1 l2 l3 : Option Value} {a0 : Nat} {a1 : Int32} (ho : yisO 7 a0) : G (d + 1) 228 4 [l0, l1, l2, l3] (.int a1 :: .ref a0 :: st) (yemb t) Q ↔ xcat st ≤ 8 ∧ Cl d 99 [.ref a0, .int a1] (yemb t) (Gk (d + 1) 228 4 [l0, l1, l2, l3] st Q) := gs_call f_228_4 ((xinv_call (i := 4) (n := 1010) (ls := [l0, l1, l2, l3]) (kind := 0) (σ := yemb t) (by decide)).trans (xcall_vi [.int a1, .ref a0] rfl rfl (show (2 : Nat) ≤ 2 by decide) rfl ho))
theorem f_228_5 : ft 228 5 = some (7, .i2l, []) := rfl
theorem s_228_5 {d : Nat} {σ : xS} {st : List Value} {Q : xR → xS → Prop} {l0 l1 l2 l3 : Option Value} {x : Int32} : G d 228 5 [l0, l1, l2, l3] (.int x :: st) σ Q ↔ G d 228 6 [l0, l1, l2, l3] (.long x.toInt64 :: st) σ Q := gs_go f_228_5 rfl
theorem f_228_6 : ft 228 6 = some (8, .lastore, []) := rfl
theorem s_228_6 {d : Nat} {t : yT} {st : List Value} {Q : xR → xS → Prop} {l0 l1 l2 l3 : Option Value} {a : Nat} {x : Int32} {v : Int64} (ha : yLA a) : G d 228 6 [l0, l1, l2, l3] (.long v :: .int x :: .ref a :: st) (yemb t) Q ↔ yix x (yn a) ∧ G d 228 7 [l0, l1, l2, l3] st (yemb (t.sL a x.toNatClampNeg v)) Q := gs_last f_228_6 ha
theorem f_228_7 : ft 228 7 = some (9, .goto 6, [11]) := rfl
theorem s_228_7 {d : Nat} {σ : xS} {st : List Value} {Q : xR → xS → Prop} {l0 l1 l2 l3 : Option Value} : G d 228 7 [l0, l1, l2, l3] st σ Q ↔ G d 228 11 [l0, l1, l2, l3] st σ Q := gs_go f_228_7 rfl
theorem f_228_8 : ft 228 8 = some (12, .astore_n 3, []) := rfl
theorem s_228_8 {d : Nat} {σ : xS} {st : List Value} {Q : xR → xS → Prop} {l0 l1 l2 l3 : Option Value} {x : Nat} (h : x < 1000000) : G d 228 8 [l0, l1, l2, l3] (.ref x :: st) σ Q ↔ G d 228 9 [l0, l1, ykl l2, some (.ref x)] st σ Q := by
  cases l2 with
  | none => exact gs_go f_228_8 (if_pos ⟨(show (3 : Nat) < 4 by decide), h⟩)
  | some v => cases v <;> exact gs_go f_228_8 (if_pos ⟨(show (3 : Nat) < 4 by decide), h⟩)
theorem f_228_9 : ft 228 9 = some (13, .iconst 1, []) := rfl
theorem s_228_9 {d : Nat} {σ : xS} {st : List Value} {Q : xR → xS → Prop} {l0 l1 l2 l3 : Option Value} : G d 228 9 [l0, l1, l2, l3] st σ Q ↔ G d 228 10 [l0, l1, l2, l3] (.int (1) :: st) σ Q := gs_go f_228_9 rfl
theorem f_228_10 : ft 228 10 = some (14, .ireturn, []) := rfl
theorem s_228_10 {d : Nat} {σ : xS} {ls : xL} {Q : xR → xS → Prop} {x : Int32} : G d 228 10 ls [.int x] σ Q ↔ Q (.inl (some (.int x))) σ := gs_reti f_228_10 rfl
theorem f_228_11 : ft 228 11 = some (15, .iconst 0, []) := rfl
theorem s_228_11 {d : Nat} {σ : xS} {st : List Value} {Q : xR → xS → Prop} {l0 l1 l2 l3 : Option Value} : G d 228 11 [l0, l1, l2, l3] st σ Q ↔ G d 228 12 [l0, l1, l2, l3] (.int (0) :: st) σ Q := gs_go f_228_11 rfl
theorem f_228_12 : ft 228 12 = some (16, .ireturn, []) := rfl
theorem s_228_12 {d : Nat} {σ : xS} {ls : xL} {Q : xR → xS → Prop} {x : Int32} : G d 228 12 ls [.int x] σ Q ↔ Q (.inl (some (.int x))) σ := gs_reti f_228_12 rfl
theorem f_229_0 : ft 229 0 = some (0, .aload_n 3, []) := rfl
theorem s_229_0 {d : Nat} {σ : xS} {st : List Value} {Q : xR → xS → Prop} {l0 l1 l2 l4 : Option Value} {x : Nat} : G d 229 0 [l0, l1, l2, some (.ref x), l4] st σ Q ↔ G d 229 1 [l0, l1, l2, some (.ref x), l4] (.ref x :: st) σ Q := gs_go f_229_0 rfl
theorem f_229_1 : ft 229 1 = some (1, .iconst 0, []) := rfl
theorem s_229_1 {d : Nat} {σ : xS} {st : List Value} {Q : xR → xS → Prop} {l0 l1 l2 l3 l4 : Option Value} : G d 229 1 [l0, l1, l2, l3, l4] st σ Q ↔ G d 229 2 [l0, l1, l2, l3, l4] (.int (0) :: st) σ Q := gs_go f_229_1 rfl
theorem f_229_2 : ft 229 2 = some (2, .aload_n 0, []) := rfl
theorem s_229_2 {d : Nat} {σ : xS} {st : List Value} {Q : xR → xS → Prop} {l1 l2 l3 l4 : Option Value} {x : Nat} : G d 229 2 [some (.ref x), l1, l2, l3, l4] st σ Q ↔ G d 229 3 [some (.ref x), l1, l2, l3, l4] (.ref x :: st) σ Q := gs_go f_229_2 rfl
theorem f_229_3 : ft 229 3 = some (3, .iload_n 1, []) := rfl
theorem s_229_3 {d : Nat} {σ : xS} {st : List Value} {Q : xR → xS → Prop} {l0 l2 l3 l4 : Option Value} {x : Int32} : G d 229 3 [l0, some (.int x), l2, l3, l4] st σ Q ↔ G d 229 4 [l0, some (.int x), l2, l3, l4] (.int x :: st) σ Q := gs_go f_229_3 rfl
theorem f_229_4 : ft 229 4 = some (4, .iload_n 2, []) := rfl
theorem s_229_4 {d : Nat} {σ : xS} {st : List Value} {Q : xR → xS → Prop} {l0 l1 l3 l4 : Option Value} {x : Int32} : G d 229 4 [l0, l1, some (.int x), l3, l4] st σ Q ↔ G d 229 5 [l0, l1, some (.int x), l3, l4] (.int x :: st) σ Q := gs_go f_229_4 rfl
theorem f_229_5 : ft 229 5 = some (5, .invokevirtual 21, [100, 3, 0, 1015]) := rfl
theorem s_229_5 {d : Nat} {t : yT} {st : List Value} {Q : xR → xS → Prop} {l0 l1 l2 l3 l4 : Option Value} {a0 : Nat} {a1 : Int32} {a2 : Int32} (ho : yisO 7 a0) : G (d + 1) 229 5 [l0, l1, l2, l3, l4] (.int a2 :: .int a1 :: .ref a0 :: st) (yemb t) Q ↔ xcat st ≤ 8 ∧ Cl d 100 [.ref a0, .int a1, .int a2] (yemb t) (Gk (d + 1) 229 5 [l0, l1, l2, l3, l4] st Q) := gs_call f_229_5 ((xinv_call (i := 5) (n := 1015) (ls := [l0, l1, l2, l3, l4]) (kind := 0) (σ := yemb t) (by decide)).trans (xcall_vi [.int a2, .int a1, .ref a0] rfl rfl (show (3 : Nat) ≤ 3 by decide) rfl ho))
theorem f_229_6 : ft 229 6 = some (8, .i2l, []) := rfl
theorem s_229_6 {d : Nat} {σ : xS} {st : List Value} {Q : xR → xS → Prop} {l0 l1 l2 l3 l4 : Option Value} {x : Int32} : G d 229 6 [l0, l1, l2, l3, l4] (.int x :: st) σ Q ↔ G d 229 7 [l0, l1, l2, l3, l4] (.long x.toInt64 :: st) σ Q := gs_go f_229_6 rfl
theorem f_229_7 : ft 229 7 = some (9, .lastore, []) := rfl
theorem s_229_7 {d : Nat} {t : yT} {st : List Value} {Q : xR → xS → Prop} {l0 l1 l2 l3 l4 : Option Value} {a : Nat} {x : Int32} {v : Int64} (ha : yLA a) : G d 229 7 [l0, l1, l2, l3, l4] (.long v :: .int x :: .ref a :: st) (yemb t) Q ↔ yix x (yn a) ∧ G d 229 8 [l0, l1, l2, l3, l4] st (yemb (t.sL a x.toNatClampNeg v)) Q := gs_last f_229_7 ha
theorem f_229_8 : ft 229 8 = some (10, .goto 11, [15]) := rfl
theorem s_229_8 {d : Nat} {σ : xS} {st : List Value} {Q : xR → xS → Prop} {l0 l1 l2 l3 l4 : Option Value} : G d 229 8 [l0, l1, l2, l3, l4] st σ Q ↔ G d 229 15 [l0, l1, l2, l3, l4] st σ Q := gs_go f_229_8 rfl
theorem f_229_9 : ft 229 9 = some (13, .astore 4, []) := rfl
theorem s_229_9 {d : Nat} {σ : xS} {st : List Value} {Q : xR → xS → Prop} {l0 l1 l2 l3 l4 : Option Value} {x : Nat} (h : x < 1000000) : G d 229 9 [l0, l1, l2, l3, l4] (.ref x :: st) σ Q ↔ G d 229 10 [l0, l1, l2, ykl l3, some (.ref x)] st σ Q := by
  cases l3 with
  | none => exact gs_go f_229_9 (if_pos ⟨(show (4 : Nat) < 5 by decide), h⟩)
  | some v => cases v <;> exact gs_go f_229_9 (if_pos ⟨(show (4 : Nat) < 5 by decide), h⟩)
theorem f_229_10 : ft 229 10 = some (15, .iconst 1, []) := rfl
theorem s_229_10 {d : Nat} {σ : xS} {st : List Value} {Q : xR → xS → Prop} {l0 l1 l2 l3 l4 : Option Value} : G d 229 10 [l0, l1, l2, l3, l4] st σ Q ↔ G d 229 11 [l0, l1, l2, l3, l4] (.int (1) :: st) σ Q := gs_go f_229_10 rfl
theorem f_229_11 : ft 229 11 = some (16, .ireturn, []) := rfl
theorem s_229_11 {d : Nat} {σ : xS} {ls : xL} {Q : xR → xS → Prop} {x : Int32} : G d 229 11 ls [.int x] σ Q ↔ Q (.inl (some (.int x))) σ := gs_reti f_229_11 rfl
theorem f_229_12 : ft 229 12 = some (17, .astore 4, []) := rfl
theorem s_229_12 {d : Nat} {σ : xS} {st : List Value} {Q : xR → xS → Prop} {l0 l1 l2 l3 l4 : Option Value} {x : Nat} (h : x < 1000000) : G d 229 12 [l0, l1, l2, l3, l4] (.ref x :: st) σ Q ↔ G d 229 13 [l0, l1, l2, ykl l3, some (.ref x)] st σ Q := by
  cases l3 with
  | none => exact gs_go f_229_12 (if_pos ⟨(show (4 : Nat) < 5 by decide), h⟩)
  | some v => cases v <;> exact gs_go f_229_12 (if_pos ⟨(show (4 : Nat) < 5 by decide), h⟩)
theorem f_229_13 : ft 229 13 = some (19, .iconst 2, []) := rfl
theorem s_229_13 {d : Nat} {σ : xS} {st : List Value} {Q : xR → xS → Prop} {l0 l1 l2 l3 l4 : Option Value} : G d 229 13 [l0, l1, l2, l3, l4] st σ Q ↔ G d 229 14 [l0, l1, l2, l3, l4] (.int (2) :: st) σ Q := gs_go f_229_13 rfl
theorem f_229_14 : ft 229 14 = some (20, .ireturn, []) := rfl
theorem s_229_14 {d : Nat} {σ : xS} {ls : xL} {Q : xR → xS → Prop} {x : Int32} : G d 229 14 ls [.int x] σ Q ↔ Q (.inl (some (.int x))) σ := gs_reti f_229_14 rfl
theorem f_229_15 : ft 229 15 = some (21, .iconst 0, []) := rfl
theorem s_229_15 {d : Nat} {σ : xS} {st : List Value} {Q : xR → xS → Prop} {l0 l1 l2 l3 l4 : Option Value} : G d 229 15 [l0, l1, l2, l3, l4] st σ Q ↔ G d 229 16 [l0, l1, l2, l3, l4] (.int (0) :: st) σ Q := gs_go f_229_15 rfl
theorem f_229_16 : ft 229 16 = some (22, .ireturn, []) := rfl
theorem s_229_16 {d : Nat} {σ : xS} {ls : xL} {Q : xR → xS → Prop} {x : Int32} : G d 229 16 ls [.int x] σ Q ↔ Q (.inl (some (.int x))) σ := gs_reti f_229_16 rfl
theorem f_230_0 : ft 230 0 = some (0, .aload_n 3, []) := rfl
theorem s_230_0 {d : Nat} {σ : xS} {st : List Value} {Q : xR → xS → Prop} {l0 l1 l2 l4 : Option Value} {x : Nat} : G d 230 0 [l0, l1, l2, some (.ref x), l4] st σ Q ↔ G d 230 1 [l0, l1, l2, some (.ref x), l4] (.ref x :: st) σ Q := gs_go f_230_0 rfl
theorem f_230_1 : ft 230 1 = some (1, .iconst 0, []) := rfl
theorem s_230_1 {d : Nat} {σ : xS} {st : List Value} {Q : xR → xS → Prop} {l0 l1 l2 l3 l4 : Option Value} : G d 230 1 [l0, l1, l2, l3, l4] st σ Q ↔ G d 230 2 [l0, l1, l2, l3, l4] (.int (0) :: st) σ Q := gs_go f_230_1 rfl
theorem f_230_2 : ft 230 2 = some (2, .aload_n 0, []) := rfl
theorem s_230_2 {d : Nat} {σ : xS} {st : List Value} {Q : xR → xS → Prop} {l1 l2 l3 l4 : Option Value} {x : Nat} : G d 230 2 [some (.ref x), l1, l2, l3, l4] st σ Q ↔ G d 230 3 [some (.ref x), l1, l2, l3, l4] (.ref x :: st) σ Q := gs_go f_230_2 rfl
theorem f_230_3 : ft 230 3 = some (3, .iload_n 1, []) := rfl
theorem s_230_3 {d : Nat} {σ : xS} {st : List Value} {Q : xR → xS → Prop} {l0 l2 l3 l4 : Option Value} {x : Int32} : G d 230 3 [l0, some (.int x), l2, l3, l4] st σ Q ↔ G d 230 4 [l0, some (.int x), l2, l3, l4] (.int x :: st) σ Q := gs_go f_230_3 rfl
theorem f_230_4 : ft 230 4 = some (4, .iload_n 2, []) := rfl
theorem s_230_4 {d : Nat} {σ : xS} {st : List Value} {Q : xR → xS → Prop} {l0 l1 l3 l4 : Option Value} {x : Int32} : G d 230 4 [l0, l1, some (.int x), l3, l4] st σ Q ↔ G d 230 5 [l0, l1, some (.int x), l3, l4] (.int x :: st) σ Q := gs_go f_230_4 rfl
theorem f_230_5 : ft 230 5 = some (5, .invokevirtual 27, [101, 3, 0, 1019]) := rfl
theorem s_230_5 {d : Nat} {t : yT} {st : List Value} {Q : xR → xS → Prop} {l0 l1 l2 l3 l4 : Option Value} {a0 : Nat} {a1 : Int32} {a2 : Int32} (ho : yisO 7 a0) : G (d + 1) 230 5 [l0, l1, l2, l3, l4] (.int a2 :: .int a1 :: .ref a0 :: st) (yemb t) Q ↔ xcat st ≤ 8 ∧ Cl d 101 [.ref a0, .int a1, .int a2] (yemb t) (Gk (d + 1) 230 5 [l0, l1, l2, l3, l4] st Q) := gs_call f_230_5 ((xinv_call (i := 5) (n := 1019) (ls := [l0, l1, l2, l3, l4]) (kind := 0) (σ := yemb t) (by decide)).trans (xcall_vi [.int a2, .int a1, .ref a0] rfl rfl (show (3 : Nat) ≤ 3 by decide) rfl ho))
theorem f_230_6 : ft 230 6 = some (8, .i2l, []) := rfl
theorem s_230_6 {d : Nat} {σ : xS} {st : List Value} {Q : xR → xS → Prop} {l0 l1 l2 l3 l4 : Option Value} {x : Int32} : G d 230 6 [l0, l1, l2, l3, l4] (.int x :: st) σ Q ↔ G d 230 7 [l0, l1, l2, l3, l4] (.long x.toInt64 :: st) σ Q := gs_go f_230_6 rfl
theorem f_230_7 : ft 230 7 = some (9, .lastore, []) := rfl
theorem s_230_7 {d : Nat} {t : yT} {st : List Value} {Q : xR → xS → Prop} {l0 l1 l2 l3 l4 : Option Value} {a : Nat} {x : Int32} {v : Int64} (ha : yLA a) : G d 230 7 [l0, l1, l2, l3, l4] (.long v :: .int x :: .ref a :: st) (yemb t) Q ↔ yix x (yn a) ∧ G d 230 8 [l0, l1, l2, l3, l4] st (yemb (t.sL a x.toNatClampNeg v)) Q := gs_last f_230_7 ha
theorem f_230_8 : ft 230 8 = some (10, .goto 11, [15]) := rfl
theorem s_230_8 {d : Nat} {σ : xS} {st : List Value} {Q : xR → xS → Prop} {l0 l1 l2 l3 l4 : Option Value} : G d 230 8 [l0, l1, l2, l3, l4] st σ Q ↔ G d 230 15 [l0, l1, l2, l3, l4] st σ Q := gs_go f_230_8 rfl
theorem f_230_9 : ft 230 9 = some (13, .astore 4, []) := rfl
theorem s_230_9 {d : Nat} {σ : xS} {st : List Value} {Q : xR → xS → Prop} {l0 l1 l2 l3 l4 : Option Value} {x : Nat} (h : x < 1000000) : G d 230 9 [l0, l1, l2, l3, l4] (.ref x :: st) σ Q ↔ G d 230 10 [l0, l1, l2, ykl l3, some (.ref x)] st σ Q := by
  cases l3 with
  | none => exact gs_go f_230_9 (if_pos ⟨(show (4 : Nat) < 5 by decide), h⟩)
  | some v => cases v <;> exact gs_go f_230_9 (if_pos ⟨(show (4 : Nat) < 5 by decide), h⟩)
theorem f_230_10 : ft 230 10 = some (15, .iconst 1, []) := rfl
theorem s_230_10 {d : Nat} {σ : xS} {st : List Value} {Q : xR → xS → Prop} {l0 l1 l2 l3 l4 : Option Value} : G d 230 10 [l0, l1, l2, l3, l4] st σ Q ↔ G d 230 11 [l0, l1, l2, l3, l4] (.int (1) :: st) σ Q := gs_go f_230_10 rfl
theorem f_230_11 : ft 230 11 = some (16, .ireturn, []) := rfl
theorem s_230_11 {d : Nat} {σ : xS} {ls : xL} {Q : xR → xS → Prop} {x : Int32} : G d 230 11 ls [.int x] σ Q ↔ Q (.inl (some (.int x))) σ := gs_reti f_230_11 rfl
theorem f_230_12 : ft 230 12 = some (17, .astore 4, []) := rfl
theorem s_230_12 {d : Nat} {σ : xS} {st : List Value} {Q : xR → xS → Prop} {l0 l1 l2 l3 l4 : Option Value} {x : Nat} (h : x < 1000000) : G d 230 12 [l0, l1, l2, l3, l4] (.ref x :: st) σ Q ↔ G d 230 13 [l0, l1, l2, ykl l3, some (.ref x)] st σ Q := by
  cases l3 with
  | none => exact gs_go f_230_12 (if_pos ⟨(show (4 : Nat) < 5 by decide), h⟩)
  | some v => cases v <;> exact gs_go f_230_12 (if_pos ⟨(show (4 : Nat) < 5 by decide), h⟩)
theorem f_230_13 : ft 230 13 = some (19, .iconst 2, []) := rfl
theorem s_230_13 {d : Nat} {σ : xS} {st : List Value} {Q : xR → xS → Prop} {l0 l1 l2 l3 l4 : Option Value} : G d 230 13 [l0, l1, l2, l3, l4] st σ Q ↔ G d 230 14 [l0, l1, l2, l3, l4] (.int (2) :: st) σ Q := gs_go f_230_13 rfl
theorem f_230_14 : ft 230 14 = some (20, .ireturn, []) := rfl
theorem s_230_14 {d : Nat} {σ : xS} {ls : xL} {Q : xR → xS → Prop} {x : Int32} : G d 230 14 ls [.int x] σ Q ↔ Q (.inl (some (.int x))) σ := gs_reti f_230_14 rfl
theorem f_230_15 : ft 230 15 = some (21, .iconst 0, []) := rfl
theorem s_230_15 {d : Nat} {σ : xS} {st : List Value} {Q : xR → xS → Prop} {l0 l1 l2 l3 l4 : Option Value} : G d 230 15 [l0, l1, l2, l3, l4] st σ Q ↔ G d 230 16 [l0, l1, l2, l3, l4] (.int (0) :: st) σ Q := gs_go f_230_15 rfl
theorem f_230_16 : ft 230 16 = some (22, .ireturn, []) := rfl
theorem s_230_16 {d : Nat} {σ : xS} {ls : xL} {Q : xR → xS → Prop} {x : Int32} : G d 230 16 ls [.int x] σ Q ↔ Q (.inl (some (.int x))) σ := gs_reti f_230_16 rfl
theorem f_231_0 : ft 231 0 = some (0, .aload_n 2, []) := rfl
theorem s_231_0 {d : Nat} {σ : xS} {st : List Value} {Q : xR → xS → Prop} {l0 l1 l3 : Option Value} {x : Nat} : G d 231 0 [l0, l1, some (.ref x), l3] st σ Q ↔ G d 231 1 [l0, l1, some (.ref x), l3] (.ref x :: st) σ Q := gs_go f_231_0 rfl
theorem f_231_1 : ft 231 1 = some (1, .iconst 0, []) := rfl
theorem s_231_1 {d : Nat} {σ : xS} {st : List Value} {Q : xR → xS → Prop} {l0 l1 l2 l3 : Option Value} : G d 231 1 [l0, l1, l2, l3] st σ Q ↔ G d 231 2 [l0, l1, l2, l3] (.int (0) :: st) σ Q := gs_go f_231_1 rfl
theorem f_231_2 : ft 231 2 = some (2, .aload_n 0, []) := rfl
theorem s_231_2 {d : Nat} {σ : xS} {st : List Value} {Q : xR → xS → Prop} {l1 l2 l3 : Option Value} {x : Nat} : G d 231 2 [some (.ref x), l1, l2, l3] st σ Q ↔ G d 231 3 [some (.ref x), l1, l2, l3] (.ref x :: st) σ Q := gs_go f_231_2 rfl
theorem f_231_3 : ft 231 3 = some (3, .iload_n 1, []) := rfl
theorem s_231_3 {d : Nat} {σ : xS} {st : List Value} {Q : xR → xS → Prop} {l0 l2 l3 : Option Value} {x : Int32} : G d 231 3 [l0, some (.int x), l2, l3] st σ Q ↔ G d 231 4 [l0, some (.int x), l2, l3] (.int x :: st) σ Q := gs_go f_231_3 rfl
theorem f_231_4 : ft 231 4 = some (4, .invokevirtual 30, [102, 2, 0, 1023]) := rfl
theorem s_231_4 {d : Nat} {t : yT} {st : List Value} {Q : xR → xS → Prop} {l0 l1 l2 l3 : Option Value} {a0 : Nat} {a1 : Int32} (ho : yisO 7 a0) : G (d + 1) 231 4 [l0, l1, l2, l3] (.int a1 :: .ref a0 :: st) (yemb t) Q ↔ xcat st ≤ 8 ∧ Cl d 102 [.ref a0, .int a1] (yemb t) (Gk (d + 1) 231 4 [l0, l1, l2, l3] st Q) := gs_call f_231_4 ((xinv_call (i := 4) (n := 1023) (ls := [l0, l1, l2, l3]) (kind := 0) (σ := yemb t) (by decide)).trans (xcall_vi [.int a1, .ref a0] rfl rfl (show (2 : Nat) ≤ 2 by decide) rfl ho))
theorem f_231_5 : ft 231 5 = some (7, .i2l, []) := rfl
theorem s_231_5 {d : Nat} {σ : xS} {st : List Value} {Q : xR → xS → Prop} {l0 l1 l2 l3 : Option Value} {x : Int32} : G d 231 5 [l0, l1, l2, l3] (.int x :: st) σ Q ↔ G d 231 6 [l0, l1, l2, l3] (.long x.toInt64 :: st) σ Q := gs_go f_231_5 rfl
theorem f_231_6 : ft 231 6 = some (8, .lastore, []) := rfl
theorem s_231_6 {d : Nat} {t : yT} {st : List Value} {Q : xR → xS → Prop} {l0 l1 l2 l3 : Option Value} {a : Nat} {x : Int32} {v : Int64} (ha : yLA a) : G d 231 6 [l0, l1, l2, l3] (.long v :: .int x :: .ref a :: st) (yemb t) Q ↔ yix x (yn a) ∧ G d 231 7 [l0, l1, l2, l3] st (yemb (t.sL a x.toNatClampNeg v)) Q := gs_last f_231_6 ha
theorem f_231_7 : ft 231 7 = some (9, .goto 6, [11]) := rfl
theorem s_231_7 {d : Nat} {σ : xS} {st : List Value} {Q : xR → xS → Prop} {l0 l1 l2 l3 : Option Value} : G d 231 7 [l0, l1, l2, l3] st σ Q ↔ G d 231 11 [l0, l1, l2, l3] st σ Q := gs_go f_231_7 rfl
theorem f_231_8 : ft 231 8 = some (12, .astore_n 3, []) := rfl
theorem s_231_8 {d : Nat} {σ : xS} {st : List Value} {Q : xR → xS → Prop} {l0 l1 l2 l3 : Option Value} {x : Nat} (h : x < 1000000) : G d 231 8 [l0, l1, l2, l3] (.ref x :: st) σ Q ↔ G d 231 9 [l0, l1, ykl l2, some (.ref x)] st σ Q := by
  cases l2 with
  | none => exact gs_go f_231_8 (if_pos ⟨(show (3 : Nat) < 4 by decide), h⟩)
  | some v => cases v <;> exact gs_go f_231_8 (if_pos ⟨(show (3 : Nat) < 4 by decide), h⟩)
theorem f_231_9 : ft 231 9 = some (13, .iconst 1, []) := rfl
theorem s_231_9 {d : Nat} {σ : xS} {st : List Value} {Q : xR → xS → Prop} {l0 l1 l2 l3 : Option Value} : G d 231 9 [l0, l1, l2, l3] st σ Q ↔ G d 231 10 [l0, l1, l2, l3] (.int (1) :: st) σ Q := gs_go f_231_9 rfl
theorem f_231_10 : ft 231 10 = some (14, .ireturn, []) := rfl
theorem s_231_10 {d : Nat} {σ : xS} {ls : xL} {Q : xR → xS → Prop} {x : Int32} : G d 231 10 ls [.int x] σ Q ↔ Q (.inl (some (.int x))) σ := gs_reti f_231_10 rfl
theorem f_231_11 : ft 231 11 = some (15, .iconst 0, []) := rfl
theorem s_231_11 {d : Nat} {σ : xS} {st : List Value} {Q : xR → xS → Prop} {l0 l1 l2 l3 : Option Value} : G d 231 11 [l0, l1, l2, l3] st σ Q ↔ G d 231 12 [l0, l1, l2, l3] (.int (0) :: st) σ Q := gs_go f_231_11 rfl
theorem f_231_12 : ft 231 12 = some (16, .ireturn, []) := rfl
theorem s_231_12 {d : Nat} {σ : xS} {ls : xL} {Q : xR → xS → Prop} {x : Int32} : G d 231 12 ls [.int x] σ Q ↔ Q (.inl (some (.int x))) σ := gs_reti f_231_12 rfl
theorem f_232_0 : ft 232 0 = some (0, .aload_n 2, []) := rfl
theorem s_232_0 {d : Nat} {σ : xS} {st : List Value} {Q : xR → xS → Prop} {l0 l1 l3 : Option Value} {x : Nat} : G d 232 0 [l0, l1, some (.ref x), l3] st σ Q ↔ G d 232 1 [l0, l1, some (.ref x), l3] (.ref x :: st) σ Q := gs_go f_232_0 rfl
theorem f_232_1 : ft 232 1 = some (1, .iconst 0, []) := rfl
theorem s_232_1 {d : Nat} {σ : xS} {st : List Value} {Q : xR → xS → Prop} {l0 l1 l2 l3 : Option Value} : G d 232 1 [l0, l1, l2, l3] st σ Q ↔ G d 232 2 [l0, l1, l2, l3] (.int (0) :: st) σ Q := gs_go f_232_1 rfl
theorem f_232_2 : ft 232 2 = some (2, .aload_n 0, []) := rfl
theorem s_232_2 {d : Nat} {σ : xS} {st : List Value} {Q : xR → xS → Prop} {l1 l2 l3 : Option Value} {x : Nat} : G d 232 2 [some (.ref x), l1, l2, l3] st σ Q ↔ G d 232 3 [some (.ref x), l1, l2, l3] (.ref x :: st) σ Q := gs_go f_232_2 rfl
theorem f_232_3 : ft 232 3 = some (3, .iload_n 1, []) := rfl
theorem s_232_3 {d : Nat} {σ : xS} {st : List Value} {Q : xR → xS → Prop} {l0 l2 l3 : Option Value} {x : Int32} : G d 232 3 [l0, some (.int x), l2, l3] st σ Q ↔ G d 232 4 [l0, some (.int x), l2, l3] (.int x :: st) σ Q := gs_go f_232_3 rfl
theorem f_232_4 : ft 232 4 = some (4, .invokevirtual 33, [103, 2, 0, 1038]) := rfl
theorem s_232_4 {d : Nat} {t : yT} {st : List Value} {Q : xR → xS → Prop} {l0 l1 l2 l3 : Option Value} {a0 : Nat} {a1 : Int32} (ho : yisO 7 a0) : G (d + 1) 232 4 [l0, l1, l2, l3] (.int a1 :: .ref a0 :: st) (yemb t) Q ↔ xcat st ≤ 8 ∧ Cl d 103 [.ref a0, .int a1] (yemb t) (Gk (d + 1) 232 4 [l0, l1, l2, l3] st Q) := gs_call f_232_4 ((xinv_call (i := 4) (n := 1038) (ls := [l0, l1, l2, l3]) (kind := 0) (σ := yemb t) (by decide)).trans (xcall_vi [.int a1, .ref a0] rfl rfl (show (2 : Nat) ≤ 2 by decide) rfl ho))
theorem f_232_5 : ft 232 5 = some (7, .i2l, []) := rfl
theorem s_232_5 {d : Nat} {σ : xS} {st : List Value} {Q : xR → xS → Prop} {l0 l1 l2 l3 : Option Value} {x : Int32} : G d 232 5 [l0, l1, l2, l3] (.int x :: st) σ Q ↔ G d 232 6 [l0, l1, l2, l3] (.long x.toInt64 :: st) σ Q := gs_go f_232_5 rfl
theorem f_232_6 : ft 232 6 = some (8, .lastore, []) := rfl
theorem s_232_6 {d : Nat} {t : yT} {st : List Value} {Q : xR → xS → Prop} {l0 l1 l2 l3 : Option Value} {a : Nat} {x : Int32} {v : Int64} (ha : yLA a) : G d 232 6 [l0, l1, l2, l3] (.long v :: .int x :: .ref a :: st) (yemb t) Q ↔ yix x (yn a) ∧ G d 232 7 [l0, l1, l2, l3] st (yemb (t.sL a x.toNatClampNeg v)) Q := gs_last f_232_6 ha
theorem f_232_7 : ft 232 7 = some (9, .goto 6, [11]) := rfl
theorem s_232_7 {d : Nat} {σ : xS} {st : List Value} {Q : xR → xS → Prop} {l0 l1 l2 l3 : Option Value} : G d 232 7 [l0, l1, l2, l3] st σ Q ↔ G d 232 11 [l0, l1, l2, l3] st σ Q := gs_go f_232_7 rfl
theorem f_232_8 : ft 232 8 = some (12, .astore_n 3, []) := rfl
theorem s_232_8 {d : Nat} {σ : xS} {st : List Value} {Q : xR → xS → Prop} {l0 l1 l2 l3 : Option Value} {x : Nat} (h : x < 1000000) : G d 232 8 [l0, l1, l2, l3] (.ref x :: st) σ Q ↔ G d 232 9 [l0, l1, ykl l2, some (.ref x)] st σ Q := by
  cases l2 with
  | none => exact gs_go f_232_8 (if_pos ⟨(show (3 : Nat) < 4 by decide), h⟩)
  | some v => cases v <;> exact gs_go f_232_8 (if_pos ⟨(show (3 : Nat) < 4 by decide), h⟩)
theorem f_232_9 : ft 232 9 = some (13, .iconst 1, []) := rfl
theorem s_232_9 {d : Nat} {σ : xS} {st : List Value} {Q : xR → xS → Prop} {l0 l1 l2 l3 : Option Value} : G d 232 9 [l0, l1, l2, l3] st σ Q ↔ G d 232 10 [l0, l1, l2, l3] (.int (1) :: st) σ Q := gs_go f_232_9 rfl
theorem f_232_10 : ft 232 10 = some (14, .ireturn, []) := rfl
theorem s_232_10 {d : Nat} {σ : xS} {ls : xL} {Q : xR → xS → Prop} {x : Int32} : G d 232 10 ls [.int x] σ Q ↔ Q (.inl (some (.int x))) σ := gs_reti f_232_10 rfl
theorem f_232_11 : ft 232 11 = some (15, .iconst 0, []) := rfl
theorem s_232_11 {d : Nat} {σ : xS} {st : List Value} {Q : xR → xS → Prop} {l0 l1 l2 l3 : Option Value} : G d 232 11 [l0, l1, l2, l3] st σ Q ↔ G d 232 12 [l0, l1, l2, l3] (.int (0) :: st) σ Q := gs_go f_232_11 rfl
theorem f_232_12 : ft 232 12 = some (16, .ireturn, []) := rfl
theorem s_232_12 {d : Nat} {σ : xS} {ls : xL} {Q : xR → xS → Prop} {x : Int32} : G d 232 12 ls [.int x] σ Q ↔ Q (.inl (some (.int x))) σ := gs_reti f_232_12 rfl
theorem f_233_0 : ft 233 0 = some (0, .aload_n 2, []) := rfl
theorem s_233_0 {d : Nat} {σ : xS} {st : List Value} {Q : xR → xS → Prop} {l0 l1 l3 : Option Value} {x : Nat} : G d 233 0 [l0, l1, some (.ref x), l3] st σ Q ↔ G d 233 1 [l0, l1, some (.ref x), l3] (.ref x :: st) σ Q := gs_go f_233_0 rfl
theorem f_233_1 : ft 233 1 = some (1, .iconst 0, []) := rfl
theorem s_233_1 {d : Nat} {σ : xS} {st : List Value} {Q : xR → xS → Prop} {l0 l1 l2 l3 : Option Value} : G d 233 1 [l0, l1, l2, l3] st σ Q ↔ G d 233 2 [l0, l1, l2, l3] (.int (0) :: st) σ Q := gs_go f_233_1 rfl
theorem f_233_2 : ft 233 2 = some (2, .aload_n 0, []) := rfl
theorem s_233_2 {d : Nat} {σ : xS} {st : List Value} {Q : xR → xS → Prop} {l1 l2 l3 : Option Value} {x : Nat} : G d 233 2 [some (.ref x), l1, l2, l3] st σ Q ↔ G d 233 3 [some (.ref x), l1, l2, l3] (.ref x :: st) σ Q := gs_go f_233_2 rfl
theorem f_233_3 : ft 233 3 = some (3, .iload_n 1, []) := rfl
theorem s_233_3 {d : Nat} {σ : xS} {st : List Value} {Q : xR → xS → Prop} {l0 l2 l3 : Option Value} {x : Int32} : G d 233 3 [l0, some (.int x), l2, l3] st σ Q ↔ G d 233 4 [l0, some (.int x), l2, l3] (.int x :: st) σ Q := gs_go f_233_3 rfl
theorem f_233_4 : ft 233 4 = some (4, .invokevirtual 36, [104, 2, 0, 1046]) := rfl
theorem s_233_4 {d : Nat} {t : yT} {st : List Value} {Q : xR → xS → Prop} {l0 l1 l2 l3 : Option Value} {a0 : Nat} {a1 : Int32} (ho : yisO 7 a0) : G (d + 1) 233 4 [l0, l1, l2, l3] (.int a1 :: .ref a0 :: st) (yemb t) Q ↔ xcat st ≤ 8 ∧ Cl d 104 [.ref a0, .int a1] (yemb t) (Gk (d + 1) 233 4 [l0, l1, l2, l3] st Q) := gs_call f_233_4 ((xinv_call (i := 4) (n := 1046) (ls := [l0, l1, l2, l3]) (kind := 0) (σ := yemb t) (by decide)).trans (xcall_vi [.int a1, .ref a0] rfl rfl (show (2 : Nat) ≤ 3 by decide) rfl ho))
theorem f_233_5 : ft 233 5 = some (7, .i2l, []) := rfl
theorem s_233_5 {d : Nat} {σ : xS} {st : List Value} {Q : xR → xS → Prop} {l0 l1 l2 l3 : Option Value} {x : Int32} : G d 233 5 [l0, l1, l2, l3] (.int x :: st) σ Q ↔ G d 233 6 [l0, l1, l2, l3] (.long x.toInt64 :: st) σ Q := gs_go f_233_5 rfl
theorem f_233_6 : ft 233 6 = some (8, .lastore, []) := rfl
theorem s_233_6 {d : Nat} {t : yT} {st : List Value} {Q : xR → xS → Prop} {l0 l1 l2 l3 : Option Value} {a : Nat} {x : Int32} {v : Int64} (ha : yLA a) : G d 233 6 [l0, l1, l2, l3] (.long v :: .int x :: .ref a :: st) (yemb t) Q ↔ yix x (yn a) ∧ G d 233 7 [l0, l1, l2, l3] st (yemb (t.sL a x.toNatClampNeg v)) Q := gs_last f_233_6 ha
theorem f_233_7 : ft 233 7 = some (9, .goto 6, [11]) := rfl
theorem s_233_7 {d : Nat} {σ : xS} {st : List Value} {Q : xR → xS → Prop} {l0 l1 l2 l3 : Option Value} : G d 233 7 [l0, l1, l2, l3] st σ Q ↔ G d 233 11 [l0, l1, l2, l3] st σ Q := gs_go f_233_7 rfl
theorem f_233_8 : ft 233 8 = some (12, .astore_n 3, []) := rfl
theorem s_233_8 {d : Nat} {σ : xS} {st : List Value} {Q : xR → xS → Prop} {l0 l1 l2 l3 : Option Value} {x : Nat} (h : x < 1000000) : G d 233 8 [l0, l1, l2, l3] (.ref x :: st) σ Q ↔ G d 233 9 [l0, l1, ykl l2, some (.ref x)] st σ Q := by
  cases l2 with
  | none => exact gs_go f_233_8 (if_pos ⟨(show (3 : Nat) < 4 by decide), h⟩)
  | some v => cases v <;> exact gs_go f_233_8 (if_pos ⟨(show (3 : Nat) < 4 by decide), h⟩)
theorem f_233_9 : ft 233 9 = some (13, .iconst 1, []) := rfl
theorem s_233_9 {d : Nat} {σ : xS} {st : List Value} {Q : xR → xS → Prop} {l0 l1 l2 l3 : Option Value} : G d 233 9 [l0, l1, l2, l3] st σ Q ↔ G d 233 10 [l0, l1, l2, l3] (.int (1) :: st) σ Q := gs_go f_233_9 rfl
theorem f_233_10 : ft 233 10 = some (14, .ireturn, []) := rfl
theorem s_233_10 {d : Nat} {σ : xS} {ls : xL} {Q : xR → xS → Prop} {x : Int32} : G d 233 10 ls [.int x] σ Q ↔ Q (.inl (some (.int x))) σ := gs_reti f_233_10 rfl
theorem f_233_11 : ft 233 11 = some (15, .iconst 0, []) := rfl
theorem s_233_11 {d : Nat} {σ : xS} {st : List Value} {Q : xR → xS → Prop} {l0 l1 l2 l3 : Option Value} : G d 233 11 [l0, l1, l2, l3] st σ Q ↔ G d 233 12 [l0, l1, l2, l3] (.int (0) :: st) σ Q := gs_go f_233_11 rfl
theorem f_233_12 : ft 233 12 = some (16, .ireturn, []) := rfl
theorem s_233_12 {d : Nat} {σ : xS} {ls : xL} {Q : xR → xS → Prop} {x : Int32} : G d 233 12 ls [.int x] σ Q ↔ Q (.inl (some (.int x))) σ := gs_reti f_233_12 rfl
theorem f_234_0 : ft 234 0 = some (0, .aload_n 2, []) := rfl
theorem s_234_0 {d : Nat} {σ : xS} {st : List Value} {Q : xR → xS → Prop} {l0 l1 l3 : Option Value} {x : Nat} : G d 234 0 [l0, l1, some (.ref x), l3] st σ Q ↔ G d 234 1 [l0, l1, some (.ref x), l3] (.ref x :: st) σ Q := gs_go f_234_0 rfl
theorem f_234_1 : ft 234 1 = some (1, .iconst 0, []) := rfl
theorem s_234_1 {d : Nat} {σ : xS} {st : List Value} {Q : xR → xS → Prop} {l0 l1 l2 l3 : Option Value} : G d 234 1 [l0, l1, l2, l3] st σ Q ↔ G d 234 2 [l0, l1, l2, l3] (.int (0) :: st) σ Q := gs_go f_234_1 rfl
theorem f_234_2 : ft 234 2 = some (2, .aload_n 0, []) := rfl
theorem s_234_2 {d : Nat} {σ : xS} {st : List Value} {Q : xR → xS → Prop} {l1 l2 l3 : Option Value} {x : Nat} : G d 234 2 [some (.ref x), l1, l2, l3] st σ Q ↔ G d 234 3 [some (.ref x), l1, l2, l3] (.ref x :: st) σ Q := gs_go f_234_2 rfl
theorem f_234_3 : ft 234 3 = some (3, .iload_n 1, []) := rfl
theorem s_234_3 {d : Nat} {σ : xS} {st : List Value} {Q : xR → xS → Prop} {l0 l2 l3 : Option Value} {x : Int32} : G d 234 3 [l0, some (.int x), l2, l3] st σ Q ↔ G d 234 4 [l0, some (.int x), l2, l3] (.int x :: st) σ Q := gs_go f_234_3 rfl
theorem f_234_4 : ft 234 4 = some (4, .invokevirtual 39, [105, 2, 0, 1055]) := rfl
theorem s_234_4 {d : Nat} {t : yT} {st : List Value} {Q : xR → xS → Prop} {l0 l1 l2 l3 : Option Value} {a0 : Nat} {a1 : Int32} (ho : yisO 7 a0) : G (d + 1) 234 4 [l0, l1, l2, l3] (.int a1 :: .ref a0 :: st) (yemb t) Q ↔ xcat st ≤ 8 ∧ Cl d 105 [.ref a0, .int a1] (yemb t) (Gk (d + 1) 234 4 [l0, l1, l2, l3] st Q) := gs_call f_234_4 ((xinv_call (i := 4) (n := 1055) (ls := [l0, l1, l2, l3]) (kind := 0) (σ := yemb t) (by decide)).trans (xcall_vi [.int a1, .ref a0] rfl rfl (show (2 : Nat) ≤ 2 by decide) rfl ho))
theorem f_234_5 : ft 234 5 = some (7, .lastore, []) := rfl
theorem s_234_5 {d : Nat} {t : yT} {st : List Value} {Q : xR → xS → Prop} {l0 l1 l2 l3 : Option Value} {a : Nat} {x : Int32} {v : Int64} (ha : yLA a) : G d 234 5 [l0, l1, l2, l3] (.long v :: .int x :: .ref a :: st) (yemb t) Q ↔ yix x (yn a) ∧ G d 234 6 [l0, l1, l2, l3] st (yemb (t.sL a x.toNatClampNeg v)) Q := gs_last f_234_5 ha
theorem f_234_6 : ft 234 6 = some (8, .goto 6, [10]) := rfl
theorem s_234_6 {d : Nat} {σ : xS} {st : List Value} {Q : xR → xS → Prop} {l0 l1 l2 l3 : Option Value} : G d 234 6 [l0, l1, l2, l3] st σ Q ↔ G d 234 10 [l0, l1, l2, l3] st σ Q := gs_go f_234_6 rfl
theorem f_234_7 : ft 234 7 = some (11, .astore_n 3, []) := rfl
theorem s_234_7 {d : Nat} {σ : xS} {st : List Value} {Q : xR → xS → Prop} {l0 l1 l2 l3 : Option Value} {x : Nat} (h : x < 1000000) : G d 234 7 [l0, l1, l2, l3] (.ref x :: st) σ Q ↔ G d 234 8 [l0, l1, ykl l2, some (.ref x)] st σ Q := by
  cases l2 with
  | none => exact gs_go f_234_7 (if_pos ⟨(show (3 : Nat) < 4 by decide), h⟩)
  | some v => cases v <;> exact gs_go f_234_7 (if_pos ⟨(show (3 : Nat) < 4 by decide), h⟩)
theorem f_234_8 : ft 234 8 = some (12, .iconst 1, []) := rfl
theorem s_234_8 {d : Nat} {σ : xS} {st : List Value} {Q : xR → xS → Prop} {l0 l1 l2 l3 : Option Value} : G d 234 8 [l0, l1, l2, l3] st σ Q ↔ G d 234 9 [l0, l1, l2, l3] (.int (1) :: st) σ Q := gs_go f_234_8 rfl
theorem f_234_9 : ft 234 9 = some (13, .ireturn, []) := rfl
theorem s_234_9 {d : Nat} {σ : xS} {ls : xL} {Q : xR → xS → Prop} {x : Int32} : G d 234 9 ls [.int x] σ Q ↔ Q (.inl (some (.int x))) σ := gs_reti f_234_9 rfl
theorem f_234_10 : ft 234 10 = some (14, .iconst 0, []) := rfl
theorem s_234_10 {d : Nat} {σ : xS} {st : List Value} {Q : xR → xS → Prop} {l0 l1 l2 l3 : Option Value} : G d 234 10 [l0, l1, l2, l3] st σ Q ↔ G d 234 11 [l0, l1, l2, l3] (.int (0) :: st) σ Q := gs_go f_234_10 rfl
theorem f_234_11 : ft 234 11 = some (15, .ireturn, []) := rfl
theorem s_234_11 {d : Nat} {σ : xS} {ls : xL} {Q : xR → xS → Prop} {x : Int32} : G d 234 11 ls [.int x] σ Q ↔ Q (.inl (some (.int x))) σ := gs_reti f_234_11 rfl
theorem f_235_0 : ft 235 0 = some (0, .aload 6, []) := rfl
theorem s_235_0 {d : Nat} {σ : xS} {st : List Value} {Q : xR → xS → Prop} {l0 l1 l2 l3 l4 l5 l7 : Option Value} {x : Nat} : G d 235 0 [l0, l1, l2, l3, l4, l5, some (.ref x), l7] st σ Q ↔ G d 235 1 [l0, l1, l2, l3, l4, l5, some (.ref x), l7] (.ref x :: st) σ Q := gs_go f_235_0 rfl
theorem f_235_1 : ft 235 1 = some (2, .iconst 0, []) := rfl
theorem s_235_1 {d : Nat} {σ : xS} {st : List Value} {Q : xR → xS → Prop} {l0 l1 l2 l3 l4 l5 l6 l7 : Option Value} : G d 235 1 [l0, l1, l2, l3, l4, l5, l6, l7] st σ Q ↔ G d 235 2 [l0, l1, l2, l3, l4, l5, l6, l7] (.int (0) :: st) σ Q := gs_go f_235_1 rfl
theorem f_235_2 : ft 235 2 = some (3, .aload_n 0, []) := rfl
theorem s_235_2 {d : Nat} {σ : xS} {st : List Value} {Q : xR → xS → Prop} {l1 l2 l3 l4 l5 l6 l7 : Option Value} {x : Nat} : G d 235 2 [some (.ref x), l1, l2, l3, l4, l5, l6, l7] st σ Q ↔ G d 235 3 [some (.ref x), l1, l2, l3, l4, l5, l6, l7] (.ref x :: st) σ Q := gs_go f_235_2 rfl
theorem f_235_3 : ft 235 3 = some (4, .iload_n 1, []) := rfl
theorem s_235_3 {d : Nat} {σ : xS} {st : List Value} {Q : xR → xS → Prop} {l0 l2 l3 l4 l5 l6 l7 : Option Value} {x : Int32} : G d 235 3 [l0, some (.int x), l2, l3, l4, l5, l6, l7] st σ Q ↔ G d 235 4 [l0, some (.int x), l2, l3, l4, l5, l6, l7] (.int x :: st) σ Q := gs_go f_235_3 rfl
theorem f_235_4 : ft 235 4 = some (5, .iload_n 2, []) := rfl
theorem s_235_4 {d : Nat} {σ : xS} {st : List Value} {Q : xR → xS → Prop} {l0 l1 l3 l4 l5 l6 l7 : Option Value} {x : Int32} : G d 235 4 [l0, l1, some (.int x), l3, l4, l5, l6, l7] st σ Q ↔ G d 235 5 [l0, l1, some (.int x), l3, l4, l5, l6, l7] (.int x :: st) σ Q := gs_go f_235_4 rfl
theorem f_235_5 : ft 235 5 = some (6, .iload_n 3, []) := rfl
theorem s_235_5 {d : Nat} {σ : xS} {st : List Value} {Q : xR → xS → Prop} {l0 l1 l2 l4 l5 l6 l7 : Option Value} {x : Int32} : G d 235 5 [l0, l1, l2, some (.int x), l4, l5, l6, l7] st σ Q ↔ G d 235 6 [l0, l1, l2, some (.int x), l4, l5, l6, l7] (.int x :: st) σ Q := gs_go f_235_5 rfl
theorem f_235_6 : ft 235 6 = some (7, .iload 4, []) := rfl
theorem s_235_6 {d : Nat} {σ : xS} {st : List Value} {Q : xR → xS → Prop} {l0 l1 l2 l3 l5 l6 l7 : Option Value} {x : Int32} : G d 235 6 [l0, l1, l2, l3, some (.int x), l5, l6, l7] st σ Q ↔ G d 235 7 [l0, l1, l2, l3, some (.int x), l5, l6, l7] (.int x :: st) σ Q := gs_go f_235_6 rfl
theorem f_235_7 : ft 235 7 = some (9, .iload 5, []) := rfl
theorem s_235_7 {d : Nat} {σ : xS} {st : List Value} {Q : xR → xS → Prop} {l0 l1 l2 l3 l4 l6 l7 : Option Value} {x : Int32} : G d 235 7 [l0, l1, l2, l3, l4, some (.int x), l6, l7] st σ Q ↔ G d 235 8 [l0, l1, l2, l3, l4, some (.int x), l6, l7] (.int x :: st) σ Q := gs_go f_235_7 rfl
theorem f_235_8 : ft 235 8 = some (11, .invokevirtual 43, [108, 6, 0, 1073]) := rfl
theorem s_235_8 {d : Nat} {t : yT} {st : List Value} {Q : xR → xS → Prop} {l0 l1 l2 l3 l4 l5 l6 l7 : Option Value} {a0 : Nat} {a1 : Int32} {a2 : Int32} {a3 : Int32} {a4 : Int32} {a5 : Int32} (ho : yisO 7 a0) : G (d + 1) 235 8 [l0, l1, l2, l3, l4, l5, l6, l7] (.int a5 :: .int a4 :: .int a3 :: .int a2 :: .int a1 :: .ref a0 :: st) (yemb t) Q ↔ xcat st ≤ 8 ∧ Cl d 108 [.ref a0, .int a1, .int a2, .int a3, .int a4, .int a5] (yemb t) (Gk (d + 1) 235 8 [l0, l1, l2, l3, l4, l5, l6, l7] st Q) := gs_call f_235_8 ((xinv_call (i := 8) (n := 1073) (ls := [l0, l1, l2, l3, l4, l5, l6, l7]) (kind := 0) (σ := yemb t) (by decide)).trans (xcall_vi [.int a5, .int a4, .int a3, .int a2, .int a1, .ref a0] rfl rfl (show (6 : Nat) ≤ 7 by decide) rfl ho))
theorem f_235_9 : ft 235 9 = some (14, .i2l, []) := rfl
theorem s_235_9 {d : Nat} {σ : xS} {st : List Value} {Q : xR → xS → Prop} {l0 l1 l2 l3 l4 l5 l6 l7 : Option Value} {x : Int32} : G d 235 9 [l0, l1, l2, l3, l4, l5, l6, l7] (.int x :: st) σ Q ↔ G d 235 10 [l0, l1, l2, l3, l4, l5, l6, l7] (.long x.toInt64 :: st) σ Q := gs_go f_235_9 rfl
theorem f_235_10 : ft 235 10 = some (15, .lastore, []) := rfl
theorem s_235_10 {d : Nat} {t : yT} {st : List Value} {Q : xR → xS → Prop} {l0 l1 l2 l3 l4 l5 l6 l7 : Option Value} {a : Nat} {x : Int32} {v : Int64} (ha : yLA a) : G d 235 10 [l0, l1, l2, l3, l4, l5, l6, l7] (.long v :: .int x :: .ref a :: st) (yemb t) Q ↔ yix x (yn a) ∧ G d 235 11 [l0, l1, l2, l3, l4, l5, l6, l7] st (yemb (t.sL a x.toNatClampNeg v)) Q := gs_last f_235_10 ha
theorem f_235_11 : ft 235 11 = some (16, .goto 11, [18]) := rfl
theorem s_235_11 {d : Nat} {σ : xS} {st : List Value} {Q : xR → xS → Prop} {l0 l1 l2 l3 l4 l5 l6 l7 : Option Value} : G d 235 11 [l0, l1, l2, l3, l4, l5, l6, l7] st σ Q ↔ G d 235 18 [l0, l1, l2, l3, l4, l5, l6, l7] st σ Q := gs_go f_235_11 rfl
theorem f_235_12 : ft 235 12 = some (19, .astore 7, []) := rfl
theorem s_235_12 {d : Nat} {σ : xS} {st : List Value} {Q : xR → xS → Prop} {l0 l1 l2 l3 l4 l5 l6 l7 : Option Value} {x : Nat} (h : x < 1000000) : G d 235 12 [l0, l1, l2, l3, l4, l5, l6, l7] (.ref x :: st) σ Q ↔ G d 235 13 [l0, l1, l2, l3, l4, l5, ykl l6, some (.ref x)] st σ Q := by
  cases l6 with
  | none => exact gs_go f_235_12 (if_pos ⟨(show (7 : Nat) < 8 by decide), h⟩)
  | some v => cases v <;> exact gs_go f_235_12 (if_pos ⟨(show (7 : Nat) < 8 by decide), h⟩)
theorem f_235_13 : ft 235 13 = some (21, .iconst 1, []) := rfl
theorem s_235_13 {d : Nat} {σ : xS} {st : List Value} {Q : xR → xS → Prop} {l0 l1 l2 l3 l4 l5 l6 l7 : Option Value} : G d 235 13 [l0, l1, l2, l3, l4, l5, l6, l7] st σ Q ↔ G d 235 14 [l0, l1, l2, l3, l4, l5, l6, l7] (.int (1) :: st) σ Q := gs_go f_235_13 rfl
theorem f_235_14 : ft 235 14 = some (22, .ireturn, []) := rfl
theorem s_235_14 {d : Nat} {σ : xS} {ls : xL} {Q : xR → xS → Prop} {x : Int32} : G d 235 14 ls [.int x] σ Q ↔ Q (.inl (some (.int x))) σ := gs_reti f_235_14 rfl
theorem f_235_15 : ft 235 15 = some (23, .astore 7, []) := rfl
theorem s_235_15 {d : Nat} {σ : xS} {st : List Value} {Q : xR → xS → Prop} {l0 l1 l2 l3 l4 l5 l6 l7 : Option Value} {x : Nat} (h : x < 1000000) : G d 235 15 [l0, l1, l2, l3, l4, l5, l6, l7] (.ref x :: st) σ Q ↔ G d 235 16 [l0, l1, l2, l3, l4, l5, ykl l6, some (.ref x)] st σ Q := by
  cases l6 with
  | none => exact gs_go f_235_15 (if_pos ⟨(show (7 : Nat) < 8 by decide), h⟩)
  | some v => cases v <;> exact gs_go f_235_15 (if_pos ⟨(show (7 : Nat) < 8 by decide), h⟩)
theorem f_235_16 : ft 235 16 = some (25, .iconst 2, []) := rfl
theorem s_235_16 {d : Nat} {σ : xS} {st : List Value} {Q : xR → xS → Prop} {l0 l1 l2 l3 l4 l5 l6 l7 : Option Value} : G d 235 16 [l0, l1, l2, l3, l4, l5, l6, l7] st σ Q ↔ G d 235 17 [l0, l1, l2, l3, l4, l5, l6, l7] (.int (2) :: st) σ Q := gs_go f_235_16 rfl
theorem f_235_17 : ft 235 17 = some (26, .ireturn, []) := rfl
theorem s_235_17 {d : Nat} {σ : xS} {ls : xL} {Q : xR → xS → Prop} {x : Int32} : G d 235 17 ls [.int x] σ Q ↔ Q (.inl (some (.int x))) σ := gs_reti f_235_17 rfl
theorem f_235_18 : ft 235 18 = some (27, .iconst 0, []) := rfl
theorem s_235_18 {d : Nat} {σ : xS} {st : List Value} {Q : xR → xS → Prop} {l0 l1 l2 l3 l4 l5 l6 l7 : Option Value} : G d 235 18 [l0, l1, l2, l3, l4, l5, l6, l7] st σ Q ↔ G d 235 19 [l0, l1, l2, l3, l4, l5, l6, l7] (.int (0) :: st) σ Q := gs_go f_235_18 rfl
theorem f_235_19 : ft 235 19 = some (28, .ireturn, []) := rfl
theorem s_235_19 {d : Nat} {σ : xS} {ls : xL} {Q : xR → xS → Prop} {x : Int32} : G d 235 19 ls [.int x] σ Q ↔ Q (.inl (some (.int x))) σ := gs_reti f_235_19 rfl
theorem f_236_0 : ft 236 0 = some (0, .aload_n 2, []) := rfl
theorem s_236_0 {d : Nat} {σ : xS} {st : List Value} {Q : xR → xS → Prop} {l0 l1 l3 : Option Value} {x : Nat} : G d 236 0 [l0, l1, some (.ref x), l3] st σ Q ↔ G d 236 1 [l0, l1, some (.ref x), l3] (.ref x :: st) σ Q := gs_go f_236_0 rfl
theorem f_236_1 : ft 236 1 = some (1, .iconst 0, []) := rfl
theorem s_236_1 {d : Nat} {σ : xS} {st : List Value} {Q : xR → xS → Prop} {l0 l1 l2 l3 : Option Value} : G d 236 1 [l0, l1, l2, l3] st σ Q ↔ G d 236 2 [l0, l1, l2, l3] (.int (0) :: st) σ Q := gs_go f_236_1 rfl
theorem f_236_2 : ft 236 2 = some (2, .aload_n 0, []) := rfl
theorem s_236_2 {d : Nat} {σ : xS} {st : List Value} {Q : xR → xS → Prop} {l1 l2 l3 : Option Value} {x : Nat} : G d 236 2 [some (.ref x), l1, l2, l3] st σ Q ↔ G d 236 3 [some (.ref x), l1, l2, l3] (.ref x :: st) σ Q := gs_go f_236_2 rfl
theorem f_236_3 : ft 236 3 = some (3, .iload_n 1, []) := rfl
theorem s_236_3 {d : Nat} {σ : xS} {st : List Value} {Q : xR → xS → Prop} {l0 l2 l3 : Option Value} {x : Int32} : G d 236 3 [l0, some (.int x), l2, l3] st σ Q ↔ G d 236 4 [l0, some (.int x), l2, l3] (.int x :: st) σ Q := gs_go f_236_3 rfl
theorem f_236_4 : ft 236 4 = some (4, .invokevirtual 47, [109, 2, 0, 1083]) := rfl
theorem s_236_4 {d : Nat} {t : yT} {st : List Value} {Q : xR → xS → Prop} {l0 l1 l2 l3 : Option Value} {a0 : Nat} {a1 : Int32} (ho : yisO 7 a0) : G (d + 1) 236 4 [l0, l1, l2, l3] (.int a1 :: .ref a0 :: st) (yemb t) Q ↔ xcat st ≤ 8 ∧ Cl d 109 [.ref a0, .int a1] (yemb t) (Gk (d + 1) 236 4 [l0, l1, l2, l3] st Q) := gs_call f_236_4 ((xinv_call (i := 4) (n := 1083) (ls := [l0, l1, l2, l3]) (kind := 0) (σ := yemb t) (by decide)).trans (xcall_vi [.int a1, .ref a0] rfl rfl (show (2 : Nat) ≤ 2 by decide) rfl ho))
theorem f_236_5 : ft 236 5 = some (7, .i2l, []) := rfl
theorem s_236_5 {d : Nat} {σ : xS} {st : List Value} {Q : xR → xS → Prop} {l0 l1 l2 l3 : Option Value} {x : Int32} : G d 236 5 [l0, l1, l2, l3] (.int x :: st) σ Q ↔ G d 236 6 [l0, l1, l2, l3] (.long x.toInt64 :: st) σ Q := gs_go f_236_5 rfl
theorem f_236_6 : ft 236 6 = some (8, .lastore, []) := rfl
theorem s_236_6 {d : Nat} {t : yT} {st : List Value} {Q : xR → xS → Prop} {l0 l1 l2 l3 : Option Value} {a : Nat} {x : Int32} {v : Int64} (ha : yLA a) : G d 236 6 [l0, l1, l2, l3] (.long v :: .int x :: .ref a :: st) (yemb t) Q ↔ yix x (yn a) ∧ G d 236 7 [l0, l1, l2, l3] st (yemb (t.sL a x.toNatClampNeg v)) Q := gs_last f_236_6 ha
theorem f_236_7 : ft 236 7 = some (9, .goto 6, [11]) := rfl
theorem s_236_7 {d : Nat} {σ : xS} {st : List Value} {Q : xR → xS → Prop} {l0 l1 l2 l3 : Option Value} : G d 236 7 [l0, l1, l2, l3] st σ Q ↔ G d 236 11 [l0, l1, l2, l3] st σ Q := gs_go f_236_7 rfl
theorem f_236_8 : ft 236 8 = some (12, .astore_n 3, []) := rfl
theorem s_236_8 {d : Nat} {σ : xS} {st : List Value} {Q : xR → xS → Prop} {l0 l1 l2 l3 : Option Value} {x : Nat} (h : x < 1000000) : G d 236 8 [l0, l1, l2, l3] (.ref x :: st) σ Q ↔ G d 236 9 [l0, l1, ykl l2, some (.ref x)] st σ Q := by
  cases l2 with
  | none => exact gs_go f_236_8 (if_pos ⟨(show (3 : Nat) < 4 by decide), h⟩)
  | some v => cases v <;> exact gs_go f_236_8 (if_pos ⟨(show (3 : Nat) < 4 by decide), h⟩)
theorem f_236_9 : ft 236 9 = some (13, .iconst 1, []) := rfl
theorem s_236_9 {d : Nat} {σ : xS} {st : List Value} {Q : xR → xS → Prop} {l0 l1 l2 l3 : Option Value} : G d 236 9 [l0, l1, l2, l3] st σ Q ↔ G d 236 10 [l0, l1, l2, l3] (.int (1) :: st) σ Q := gs_go f_236_9 rfl
theorem f_236_10 : ft 236 10 = some (14, .ireturn, []) := rfl
theorem s_236_10 {d : Nat} {σ : xS} {ls : xL} {Q : xR → xS → Prop} {x : Int32} : G d 236 10 ls [.int x] σ Q ↔ Q (.inl (some (.int x))) σ := gs_reti f_236_10 rfl
theorem f_236_11 : ft 236 11 = some (15, .iconst 0, []) := rfl
theorem s_236_11 {d : Nat} {σ : xS} {st : List Value} {Q : xR → xS → Prop} {l0 l1 l2 l3 : Option Value} : G d 236 11 [l0, l1, l2, l3] st σ Q ↔ G d 236 12 [l0, l1, l2, l3] (.int (0) :: st) σ Q := gs_go f_236_11 rfl
theorem f_236_12 : ft 236 12 = some (16, .ireturn, []) := rfl
theorem s_236_12 {d : Nat} {σ : xS} {ls : xL} {Q : xR → xS → Prop} {x : Int32} : G d 236 12 ls [.int x] σ Q ↔ Q (.inl (some (.int x))) σ := gs_reti f_236_12 rfl
theorem f_237_0 : ft 237 0 = some (0, .aload_n 2, []) := rfl
theorem s_237_0 {d : Nat} {σ : xS} {st : List Value} {Q : xR → xS → Prop} {l0 l1 l3 : Option Value} {x : Nat} : G d 237 0 [l0, l1, some (.ref x), l3] st σ Q ↔ G d 237 1 [l0, l1, some (.ref x), l3] (.ref x :: st) σ Q := gs_go f_237_0 rfl
theorem f_237_1 : ft 237 1 = some (1, .iconst 0, []) := rfl
theorem s_237_1 {d : Nat} {σ : xS} {st : List Value} {Q : xR → xS → Prop} {l0 l1 l2 l3 : Option Value} : G d 237 1 [l0, l1, l2, l3] st σ Q ↔ G d 237 2 [l0, l1, l2, l3] (.int (0) :: st) σ Q := gs_go f_237_1 rfl
theorem f_237_2 : ft 237 2 = some (2, .aload_n 0, []) := rfl
theorem s_237_2 {d : Nat} {σ : xS} {st : List Value} {Q : xR → xS → Prop} {l1 l2 l3 : Option Value} {x : Nat} : G d 237 2 [some (.ref x), l1, l2, l3] st σ Q ↔ G d 237 3 [some (.ref x), l1, l2, l3] (.ref x :: st) σ Q := gs_go f_237_2 rfl
theorem f_237_3 : ft 237 3 = some (3, .iload_n 1, []) := rfl
theorem s_237_3 {d : Nat} {σ : xS} {st : List Value} {Q : xR → xS → Prop} {l0 l2 l3 : Option Value} {x : Int32} : G d 237 3 [l0, some (.int x), l2, l3] st σ Q ↔ G d 237 4 [l0, some (.int x), l2, l3] (.int x :: st) σ Q := gs_go f_237_3 rfl
theorem f_237_4 : ft 237 4 = some (4, .invokevirtual 50, [110, 2, 0, 1091]) := rfl
theorem s_237_4 {d : Nat} {t : yT} {st : List Value} {Q : xR → xS → Prop} {l0 l1 l2 l3 : Option Value} {a0 : Nat} {a1 : Int32} (ho : yisO 7 a0) : G (d + 1) 237 4 [l0, l1, l2, l3] (.int a1 :: .ref a0 :: st) (yemb t) Q ↔ xcat st ≤ 8 ∧ Cl d 110 [.ref a0, .int a1] (yemb t) (Gk (d + 1) 237 4 [l0, l1, l2, l3] st Q) := gs_call f_237_4 ((xinv_call (i := 4) (n := 1091) (ls := [l0, l1, l2, l3]) (kind := 0) (σ := yemb t) (by decide)).trans (xcall_vi [.int a1, .ref a0] rfl rfl (show (2 : Nat) ≤ 3 by decide) rfl ho))
theorem f_237_5 : ft 237 5 = some (7, .i2l, []) := rfl
theorem s_237_5 {d : Nat} {σ : xS} {st : List Value} {Q : xR → xS → Prop} {l0 l1 l2 l3 : Option Value} {x : Int32} : G d 237 5 [l0, l1, l2, l3] (.int x :: st) σ Q ↔ G d 237 6 [l0, l1, l2, l3] (.long x.toInt64 :: st) σ Q := gs_go f_237_5 rfl
theorem f_237_6 : ft 237 6 = some (8, .lastore, []) := rfl
theorem s_237_6 {d : Nat} {t : yT} {st : List Value} {Q : xR → xS → Prop} {l0 l1 l2 l3 : Option Value} {a : Nat} {x : Int32} {v : Int64} (ha : yLA a) : G d 237 6 [l0, l1, l2, l3] (.long v :: .int x :: .ref a :: st) (yemb t) Q ↔ yix x (yn a) ∧ G d 237 7 [l0, l1, l2, l3] st (yemb (t.sL a x.toNatClampNeg v)) Q := gs_last f_237_6 ha
theorem f_237_7 : ft 237 7 = some (9, .goto 6, [11]) := rfl
theorem s_237_7 {d : Nat} {σ : xS} {st : List Value} {Q : xR → xS → Prop} {l0 l1 l2 l3 : Option Value} : G d 237 7 [l0, l1, l2, l3] st σ Q ↔ G d 237 11 [l0, l1, l2, l3] st σ Q := gs_go f_237_7 rfl
theorem f_237_8 : ft 237 8 = some (12, .astore_n 3, []) := rfl
theorem s_237_8 {d : Nat} {σ : xS} {st : List Value} {Q : xR → xS → Prop} {l0 l1 l2 l3 : Option Value} {x : Nat} (h : x < 1000000) : G d 237 8 [l0, l1, l2, l3] (.ref x :: st) σ Q ↔ G d 237 9 [l0, l1, ykl l2, some (.ref x)] st σ Q := by
  cases l2 with
  | none => exact gs_go f_237_8 (if_pos ⟨(show (3 : Nat) < 4 by decide), h⟩)
  | some v => cases v <;> exact gs_go f_237_8 (if_pos ⟨(show (3 : Nat) < 4 by decide), h⟩)
theorem f_237_9 : ft 237 9 = some (13, .iconst 1, []) := rfl
theorem s_237_9 {d : Nat} {σ : xS} {st : List Value} {Q : xR → xS → Prop} {l0 l1 l2 l3 : Option Value} : G d 237 9 [l0, l1, l2, l3] st σ Q ↔ G d 237 10 [l0, l1, l2, l3] (.int (1) :: st) σ Q := gs_go f_237_9 rfl
theorem f_237_10 : ft 237 10 = some (14, .ireturn, []) := rfl
theorem s_237_10 {d : Nat} {σ : xS} {ls : xL} {Q : xR → xS → Prop} {x : Int32} : G d 237 10 ls [.int x] σ Q ↔ Q (.inl (some (.int x))) σ := gs_reti f_237_10 rfl
theorem f_237_11 : ft 237 11 = some (15, .iconst 0, []) := rfl
theorem s_237_11 {d : Nat} {σ : xS} {st : List Value} {Q : xR → xS → Prop} {l0 l1 l2 l3 : Option Value} : G d 237 11 [l0, l1, l2, l3] st σ Q ↔ G d 237 12 [l0, l1, l2, l3] (.int (0) :: st) σ Q := gs_go f_237_11 rfl
theorem f_237_12 : ft 237 12 = some (16, .ireturn, []) := rfl
theorem s_237_12 {d : Nat} {σ : xS} {ls : xL} {Q : xR → xS → Prop} {x : Int32} : G d 237 12 ls [.int x] σ Q ↔ Q (.inl (some (.int x))) σ := gs_reti f_237_12 rfl
theorem f_238_0 : ft 238 0 = some (0, .aload_n 2, []) := rfl
theorem s_238_0 {d : Nat} {σ : xS} {st : List Value} {Q : xR → xS → Prop} {l0 l1 l3 : Option Value} {x : Nat} : G d 238 0 [l0, l1, some (.ref x), l3] st σ Q ↔ G d 238 1 [l0, l1, some (.ref x), l3] (.ref x :: st) σ Q := gs_go f_238_0 rfl
theorem f_238_1 : ft 238 1 = some (1, .iconst 0, []) := rfl
theorem s_238_1 {d : Nat} {σ : xS} {st : List Value} {Q : xR → xS → Prop} {l0 l1 l2 l3 : Option Value} : G d 238 1 [l0, l1, l2, l3] st σ Q ↔ G d 238 2 [l0, l1, l2, l3] (.int (0) :: st) σ Q := gs_go f_238_1 rfl
theorem f_238_2 : ft 238 2 = some (2, .aload_n 0, []) := rfl
theorem s_238_2 {d : Nat} {σ : xS} {st : List Value} {Q : xR → xS → Prop} {l1 l2 l3 : Option Value} {x : Nat} : G d 238 2 [some (.ref x), l1, l2, l3] st σ Q ↔ G d 238 3 [some (.ref x), l1, l2, l3] (.ref x :: st) σ Q := gs_go f_238_2 rfl
theorem f_238_3 : ft 238 3 = some (3, .iload_n 1, []) := rfl
theorem s_238_3 {d : Nat} {σ : xS} {st : List Value} {Q : xR → xS → Prop} {l0 l2 l3 : Option Value} {x : Int32} : G d 238 3 [l0, some (.int x), l2, l3] st σ Q ↔ G d 238 4 [l0, some (.int x), l2, l3] (.int x :: st) σ Q := gs_go f_238_3 rfl
theorem f_238_4 : ft 238 4 = some (4, .invokevirtual 53, [111, 2, 0, 1099]) := rfl
theorem s_238_4 {d : Nat} {t : yT} {st : List Value} {Q : xR → xS → Prop} {l0 l1 l2 l3 : Option Value} {a0 : Nat} {a1 : Int32} (ho : yisO 7 a0) : G (d + 1) 238 4 [l0, l1, l2, l3] (.int a1 :: .ref a0 :: st) (yemb t) Q ↔ xcat st ≤ 8 ∧ Cl d 111 [.ref a0, .int a1] (yemb t) (Gk (d + 1) 238 4 [l0, l1, l2, l3] st Q) := gs_call f_238_4 ((xinv_call (i := 4) (n := 1099) (ls := [l0, l1, l2, l3]) (kind := 0) (σ := yemb t) (by decide)).trans (xcall_vi [.int a1, .ref a0] rfl rfl (show (2 : Nat) ≤ 3 by decide) rfl ho))
theorem f_238_5 : ft 238 5 = some (7, .i2l, []) := rfl
theorem s_238_5 {d : Nat} {σ : xS} {st : List Value} {Q : xR → xS → Prop} {l0 l1 l2 l3 : Option Value} {x : Int32} : G d 238 5 [l0, l1, l2, l3] (.int x :: st) σ Q ↔ G d 238 6 [l0, l1, l2, l3] (.long x.toInt64 :: st) σ Q := gs_go f_238_5 rfl
theorem f_238_6 : ft 238 6 = some (8, .lastore, []) := rfl
theorem s_238_6 {d : Nat} {t : yT} {st : List Value} {Q : xR → xS → Prop} {l0 l1 l2 l3 : Option Value} {a : Nat} {x : Int32} {v : Int64} (ha : yLA a) : G d 238 6 [l0, l1, l2, l3] (.long v :: .int x :: .ref a :: st) (yemb t) Q ↔ yix x (yn a) ∧ G d 238 7 [l0, l1, l2, l3] st (yemb (t.sL a x.toNatClampNeg v)) Q := gs_last f_238_6 ha
theorem f_238_7 : ft 238 7 = some (9, .goto 6, [11]) := rfl
theorem s_238_7 {d : Nat} {σ : xS} {st : List Value} {Q : xR → xS → Prop} {l0 l1 l2 l3 : Option Value} : G d 238 7 [l0, l1, l2, l3] st σ Q ↔ G d 238 11 [l0, l1, l2, l3] st σ Q := gs_go f_238_7 rfl
theorem f_238_8 : ft 238 8 = some (12, .astore_n 3, []) := rfl
theorem s_238_8 {d : Nat} {σ : xS} {st : List Value} {Q : xR → xS → Prop} {l0 l1 l2 l3 : Option Value} {x : Nat} (h : x < 1000000) : G d 238 8 [l0, l1, l2, l3] (.ref x :: st) σ Q ↔ G d 238 9 [l0, l1, ykl l2, some (.ref x)] st σ Q := by
  cases l2 with
  | none => exact gs_go f_238_8 (if_pos ⟨(show (3 : Nat) < 4 by decide), h⟩)
  | some v => cases v <;> exact gs_go f_238_8 (if_pos ⟨(show (3 : Nat) < 4 by decide), h⟩)
theorem f_238_9 : ft 238 9 = some (13, .iconst 1, []) := rfl
theorem s_238_9 {d : Nat} {σ : xS} {st : List Value} {Q : xR → xS → Prop} {l0 l1 l2 l3 : Option Value} : G d 238 9 [l0, l1, l2, l3] st σ Q ↔ G d 238 10 [l0, l1, l2, l3] (.int (1) :: st) σ Q := gs_go f_238_9 rfl
theorem f_238_10 : ft 238 10 = some (14, .ireturn, []) := rfl
theorem s_238_10 {d : Nat} {σ : xS} {ls : xL} {Q : xR → xS → Prop} {x : Int32} : G d 238 10 ls [.int x] σ Q ↔ Q (.inl (some (.int x))) σ := gs_reti f_238_10 rfl
theorem f_238_11 : ft 238 11 = some (15, .iconst 0, []) := rfl
theorem s_238_11 {d : Nat} {σ : xS} {st : List Value} {Q : xR → xS → Prop} {l0 l1 l2 l3 : Option Value} : G d 238 11 [l0, l1, l2, l3] st σ Q ↔ G d 238 12 [l0, l1, l2, l3] (.int (0) :: st) σ Q := gs_go f_238_11 rfl
theorem f_238_12 : ft 238 12 = some (16, .ireturn, []) := rfl
theorem s_238_12 {d : Nat} {σ : xS} {ls : xL} {Q : xR → xS → Prop} {x : Int32} : G d 238 12 ls [.int x] σ Q ↔ Q (.inl (some (.int x))) σ := gs_reti f_238_12 rfl
theorem f_239_0 : ft 239 0 = some (0, .aload_n 3, []) := rfl
theorem s_239_0 {d : Nat} {σ : xS} {st : List Value} {Q : xR → xS → Prop} {l0 l1 l2 l4 : Option Value} {x : Nat} : G d 239 0 [l0, l1, l2, some (.ref x), l4] st σ Q ↔ G d 239 1 [l0, l1, l2, some (.ref x), l4] (.ref x :: st) σ Q := gs_go f_239_0 rfl
theorem f_239_1 : ft 239 1 = some (1, .iconst 0, []) := rfl
theorem s_239_1 {d : Nat} {σ : xS} {st : List Value} {Q : xR → xS → Prop} {l0 l1 l2 l3 l4 : Option Value} : G d 239 1 [l0, l1, l2, l3, l4] st σ Q ↔ G d 239 2 [l0, l1, l2, l3, l4] (.int (0) :: st) σ Q := gs_go f_239_1 rfl
theorem f_239_2 : ft 239 2 = some (2, .aload_n 0, []) := rfl
theorem s_239_2 {d : Nat} {σ : xS} {st : List Value} {Q : xR → xS → Prop} {l1 l2 l3 l4 : Option Value} {x : Nat} : G d 239 2 [some (.ref x), l1, l2, l3, l4] st σ Q ↔ G d 239 3 [some (.ref x), l1, l2, l3, l4] (.ref x :: st) σ Q := gs_go f_239_2 rfl
theorem f_239_3 : ft 239 3 = some (3, .iload_n 1, []) := rfl
theorem s_239_3 {d : Nat} {σ : xS} {st : List Value} {Q : xR → xS → Prop} {l0 l2 l3 l4 : Option Value} {x : Int32} : G d 239 3 [l0, some (.int x), l2, l3, l4] st σ Q ↔ G d 239 4 [l0, some (.int x), l2, l3, l4] (.int x :: st) σ Q := gs_go f_239_3 rfl
theorem f_239_4 : ft 239 4 = some (4, .iload_n 2, []) := rfl
theorem s_239_4 {d : Nat} {σ : xS} {st : List Value} {Q : xR → xS → Prop} {l0 l1 l3 l4 : Option Value} {x : Int32} : G d 239 4 [l0, l1, some (.int x), l3, l4] st σ Q ↔ G d 239 5 [l0, l1, some (.int x), l3, l4] (.int x :: st) σ Q := gs_go f_239_4 rfl
theorem f_239_5 : ft 239 5 = some (5, .invokevirtual 56, [112, 3, 0, 1107]) := rfl
theorem s_239_5 {d : Nat} {t : yT} {st : List Value} {Q : xR → xS → Prop} {l0 l1 l2 l3 l4 : Option Value} {a0 : Nat} {a1 : Int32} {a2 : Int32} (ho : yisO 7 a0) : G (d + 1) 239 5 [l0, l1, l2, l3, l4] (.int a2 :: .int a1 :: .ref a0 :: st) (yemb t) Q ↔ xcat st ≤ 8 ∧ Cl d 112 [.ref a0, .int a1, .int a2] (yemb t) (Gk (d + 1) 239 5 [l0, l1, l2, l3, l4] st Q) := gs_call f_239_5 ((xinv_call (i := 5) (n := 1107) (ls := [l0, l1, l2, l3, l4]) (kind := 0) (σ := yemb t) (by decide)).trans (xcall_vi [.int a2, .int a1, .ref a0] rfl rfl (show (3 : Nat) ≤ 4 by decide) rfl ho))
theorem f_239_6 : ft 239 6 = some (8, .ifCond .eq 7, [9]) := rfl
theorem s_239_6 {d : Nat} {σ : xS} {st : List Value} {Q : xR → xS → Prop} {l0 l1 l2 l3 l4 : Option Value} {x : Int32} : G d 239 6 [l0, l1, l2, l3, l4] (.int x :: st) σ Q ↔ if x = 0 then G d 239 9 [l0, l1, l2, l3, l4] st σ Q else G d 239 7 [l0, l1, l2, l3, l4] st σ Q := gs_if f_239_6 rfl
theorem f_239_7 : ft 239 7 = some (11, .lconst 1, []) := rfl
theorem s_239_7 {d : Nat} {σ : xS} {st : List Value} {Q : xR → xS → Prop} {l0 l1 l2 l3 l4 : Option Value} : G d 239 7 [l0, l1, l2, l3, l4] st σ Q ↔ G d 239 8 [l0, l1, l2, l3, l4] (.long (1) :: st) σ Q := gs_go f_239_7 rfl
theorem f_239_8 : ft 239 8 = some (12, .goto 4, [10]) := rfl
theorem s_239_8 {d : Nat} {σ : xS} {st : List Value} {Q : xR → xS → Prop} {l0 l1 l2 l3 l4 : Option Value} : G d 239 8 [l0, l1, l2, l3, l4] st σ Q ↔ G d 239 10 [l0, l1, l2, l3, l4] st σ Q := gs_go f_239_8 rfl
theorem f_239_9 : ft 239 9 = some (15, .lconst 0, []) := rfl
theorem s_239_9 {d : Nat} {σ : xS} {st : List Value} {Q : xR → xS → Prop} {l0 l1 l2 l3 l4 : Option Value} : G d 239 9 [l0, l1, l2, l3, l4] st σ Q ↔ G d 239 10 [l0, l1, l2, l3, l4] (.long (0) :: st) σ Q := gs_go f_239_9 rfl
theorem f_239_10 : ft 239 10 = some (16, .lastore, []) := rfl
theorem s_239_10 {d : Nat} {t : yT} {st : List Value} {Q : xR → xS → Prop} {l0 l1 l2 l3 l4 : Option Value} {a : Nat} {x : Int32} {v : Int64} (ha : yLA a) : G d 239 10 [l0, l1, l2, l3, l4] (.long v :: .int x :: .ref a :: st) (yemb t) Q ↔ yix x (yn a) ∧ G d 239 11 [l0, l1, l2, l3, l4] st (yemb (t.sL a x.toNatClampNeg v)) Q := gs_last f_239_10 ha
theorem f_239_11 : ft 239 11 = some (17, .goto 7, [15]) := rfl
theorem s_239_11 {d : Nat} {σ : xS} {st : List Value} {Q : xR → xS → Prop} {l0 l1 l2 l3 l4 : Option Value} : G d 239 11 [l0, l1, l2, l3, l4] st σ Q ↔ G d 239 15 [l0, l1, l2, l3, l4] st σ Q := gs_go f_239_11 rfl
theorem f_239_12 : ft 239 12 = some (20, .astore 4, []) := rfl
theorem s_239_12 {d : Nat} {σ : xS} {st : List Value} {Q : xR → xS → Prop} {l0 l1 l2 l3 l4 : Option Value} {x : Nat} (h : x < 1000000) : G d 239 12 [l0, l1, l2, l3, l4] (.ref x :: st) σ Q ↔ G d 239 13 [l0, l1, l2, ykl l3, some (.ref x)] st σ Q := by
  cases l3 with
  | none => exact gs_go f_239_12 (if_pos ⟨(show (4 : Nat) < 5 by decide), h⟩)
  | some v => cases v <;> exact gs_go f_239_12 (if_pos ⟨(show (4 : Nat) < 5 by decide), h⟩)
theorem f_239_13 : ft 239 13 = some (22, .iconst 1, []) := rfl
theorem s_239_13 {d : Nat} {σ : xS} {st : List Value} {Q : xR → xS → Prop} {l0 l1 l2 l3 l4 : Option Value} : G d 239 13 [l0, l1, l2, l3, l4] st σ Q ↔ G d 239 14 [l0, l1, l2, l3, l4] (.int (1) :: st) σ Q := gs_go f_239_13 rfl
theorem f_239_14 : ft 239 14 = some (23, .ireturn, []) := rfl
theorem s_239_14 {d : Nat} {σ : xS} {ls : xL} {Q : xR → xS → Prop} {x : Int32} : G d 239 14 ls [.int x] σ Q ↔ Q (.inl (some (.int x))) σ := gs_reti f_239_14 rfl
theorem f_239_15 : ft 239 15 = some (24, .iconst 0, []) := rfl
theorem s_239_15 {d : Nat} {σ : xS} {st : List Value} {Q : xR → xS → Prop} {l0 l1 l2 l3 l4 : Option Value} : G d 239 15 [l0, l1, l2, l3, l4] st σ Q ↔ G d 239 16 [l0, l1, l2, l3, l4] (.int (0) :: st) σ Q := gs_go f_239_15 rfl
theorem f_239_16 : ft 239 16 = some (25, .ireturn, []) := rfl
theorem s_239_16 {d : Nat} {σ : xS} {ls : xL} {Q : xR → xS → Prop} {x : Int32} : G d 239 16 ls [.int x] σ Q ↔ Q (.inl (some (.int x))) σ := gs_reti f_239_16 rfl
theorem f_240_0 : ft 240 0 = some (0, .aload 4, []) := rfl
theorem s_240_0 {d : Nat} {σ : xS} {st : List Value} {Q : xR → xS → Prop} {l0 l1 l2 l3 l5 : Option Value} {x : Nat} : G d 240 0 [l0, l1, l2, l3, some (.ref x), l5] st σ Q ↔ G d 240 1 [l0, l1, l2, l3, some (.ref x), l5] (.ref x :: st) σ Q := gs_go f_240_0 rfl
theorem f_240_1 : ft 240 1 = some (2, .iconst 0, []) := rfl
theorem s_240_1 {d : Nat} {σ : xS} {st : List Value} {Q : xR → xS → Prop} {l0 l1 l2 l3 l4 l5 : Option Value} : G d 240 1 [l0, l1, l2, l3, l4, l5] st σ Q ↔ G d 240 2 [l0, l1, l2, l3, l4, l5] (.int (0) :: st) σ Q := gs_go f_240_1 rfl
theorem f_240_2 : ft 240 2 = some (3, .aload_n 0, []) := rfl
theorem s_240_2 {d : Nat} {σ : xS} {st : List Value} {Q : xR → xS → Prop} {l1 l2 l3 l4 l5 : Option Value} {x : Nat} : G d 240 2 [some (.ref x), l1, l2, l3, l4, l5] st σ Q ↔ G d 240 3 [some (.ref x), l1, l2, l3, l4, l5] (.ref x :: st) σ Q := gs_go f_240_2 rfl
theorem f_240_3 : ft 240 3 = some (4, .iload_n 1, []) := rfl
theorem s_240_3 {d : Nat} {σ : xS} {st : List Value} {Q : xR → xS → Prop} {l0 l2 l3 l4 l5 : Option Value} {x : Int32} : G d 240 3 [l0, some (.int x), l2, l3, l4, l5] st σ Q ↔ G d 240 4 [l0, some (.int x), l2, l3, l4, l5] (.int x :: st) σ Q := gs_go f_240_3 rfl
theorem f_240_4 : ft 240 4 = some (5, .iload_n 2, []) := rfl
theorem s_240_4 {d : Nat} {σ : xS} {st : List Value} {Q : xR → xS → Prop} {l0 l1 l3 l4 l5 : Option Value} {x : Int32} : G d 240 4 [l0, l1, some (.int x), l3, l4, l5] st σ Q ↔ G d 240 5 [l0, l1, some (.int x), l3, l4, l5] (.int x :: st) σ Q := gs_go f_240_4 rfl
theorem f_240_5 : ft 240 5 = some (6, .iload_n 3, []) := rfl
theorem s_240_5 {d : Nat} {σ : xS} {st : List Value} {Q : xR → xS → Prop} {l0 l1 l2 l4 l5 : Option Value} {x : Int32} : G d 240 5 [l0, l1, l2, some (.int x), l4, l5] st σ Q ↔ G d 240 6 [l0, l1, l2, some (.int x), l4, l5] (.int x :: st) σ Q := gs_go f_240_5 rfl
theorem f_240_6 : ft 240 6 = some (7, .invokevirtual 60, [113, 4, 0, 1116]) := rfl
theorem s_240_6 {d : Nat} {t : yT} {st : List Value} {Q : xR → xS → Prop} {l0 l1 l2 l3 l4 l5 : Option Value} {a0 : Nat} {a1 : Int32} {a2 : Int32} {a3 : Int32} (ho : yisO 7 a0) : G (d + 1) 240 6 [l0, l1, l2, l3, l4, l5] (.int a3 :: .int a2 :: .int a1 :: .ref a0 :: st) (yemb t) Q ↔ xcat st ≤ 8 ∧ Cl d 113 [.ref a0, .int a1, .int a2, .int a3] (yemb t) (Gk (d + 1) 240 6 [l0, l1, l2, l3, l4, l5] st Q) := gs_call f_240_6 ((xinv_call (i := 6) (n := 1116) (ls := [l0, l1, l2, l3, l4, l5]) (kind := 0) (σ := yemb t) (by decide)).trans (xcall_vi [.int a3, .int a2, .int a1, .ref a0] rfl rfl (show (4 : Nat) ≤ 5 by decide) rfl ho))
theorem f_240_7 : ft 240 7 = some (10, .i2l, []) := rfl
theorem s_240_7 {d : Nat} {σ : xS} {st : List Value} {Q : xR → xS → Prop} {l0 l1 l2 l3 l4 l5 : Option Value} {x : Int32} : G d 240 7 [l0, l1, l2, l3, l4, l5] (.int x :: st) σ Q ↔ G d 240 8 [l0, l1, l2, l3, l4, l5] (.long x.toInt64 :: st) σ Q := gs_go f_240_7 rfl
theorem f_240_8 : ft 240 8 = some (11, .lastore, []) := rfl
theorem s_240_8 {d : Nat} {t : yT} {st : List Value} {Q : xR → xS → Prop} {l0 l1 l2 l3 l4 l5 : Option Value} {a : Nat} {x : Int32} {v : Int64} (ha : yLA a) : G d 240 8 [l0, l1, l2, l3, l4, l5] (.long v :: .int x :: .ref a :: st) (yemb t) Q ↔ yix x (yn a) ∧ G d 240 9 [l0, l1, l2, l3, l4, l5] st (yemb (t.sL a x.toNatClampNeg v)) Q := gs_last f_240_8 ha
theorem f_240_9 : ft 240 9 = some (12, .goto 15, [19]) := rfl
theorem s_240_9 {d : Nat} {σ : xS} {st : List Value} {Q : xR → xS → Prop} {l0 l1 l2 l3 l4 l5 : Option Value} : G d 240 9 [l0, l1, l2, l3, l4, l5] st σ Q ↔ G d 240 19 [l0, l1, l2, l3, l4, l5] st σ Q := gs_go f_240_9 rfl
theorem f_240_10 : ft 240 10 = some (15, .astore 5, []) := rfl
theorem s_240_10 {d : Nat} {σ : xS} {st : List Value} {Q : xR → xS → Prop} {l0 l1 l2 l3 l4 l5 : Option Value} {x : Nat} (h : x < 1000000) : G d 240 10 [l0, l1, l2, l3, l4, l5] (.ref x :: st) σ Q ↔ G d 240 11 [l0, l1, l2, l3, ykl l4, some (.ref x)] st σ Q := by
  cases l4 with
  | none => exact gs_go f_240_10 (if_pos ⟨(show (5 : Nat) < 6 by decide), h⟩)
  | some v => cases v <;> exact gs_go f_240_10 (if_pos ⟨(show (5 : Nat) < 6 by decide), h⟩)
theorem f_240_11 : ft 240 11 = some (17, .iconst 1, []) := rfl
theorem s_240_11 {d : Nat} {σ : xS} {st : List Value} {Q : xR → xS → Prop} {l0 l1 l2 l3 l4 l5 : Option Value} : G d 240 11 [l0, l1, l2, l3, l4, l5] st σ Q ↔ G d 240 12 [l0, l1, l2, l3, l4, l5] (.int (1) :: st) σ Q := gs_go f_240_11 rfl
theorem f_240_12 : ft 240 12 = some (18, .ireturn, []) := rfl
theorem s_240_12 {d : Nat} {σ : xS} {ls : xL} {Q : xR → xS → Prop} {x : Int32} : G d 240 12 ls [.int x] σ Q ↔ Q (.inl (some (.int x))) σ := gs_reti f_240_12 rfl
theorem f_240_13 : ft 240 13 = some (19, .astore 5, []) := rfl
theorem s_240_13 {d : Nat} {σ : xS} {st : List Value} {Q : xR → xS → Prop} {l0 l1 l2 l3 l4 l5 : Option Value} {x : Nat} (h : x < 1000000) : G d 240 13 [l0, l1, l2, l3, l4, l5] (.ref x :: st) σ Q ↔ G d 240 14 [l0, l1, l2, l3, ykl l4, some (.ref x)] st σ Q := by
  cases l4 with
  | none => exact gs_go f_240_13 (if_pos ⟨(show (5 : Nat) < 6 by decide), h⟩)
  | some v => cases v <;> exact gs_go f_240_13 (if_pos ⟨(show (5 : Nat) < 6 by decide), h⟩)
theorem f_240_14 : ft 240 14 = some (21, .iconst 2, []) := rfl
theorem s_240_14 {d : Nat} {σ : xS} {st : List Value} {Q : xR → xS → Prop} {l0 l1 l2 l3 l4 l5 : Option Value} : G d 240 14 [l0, l1, l2, l3, l4, l5] st σ Q ↔ G d 240 15 [l0, l1, l2, l3, l4, l5] (.int (2) :: st) σ Q := gs_go f_240_14 rfl
theorem f_240_15 : ft 240 15 = some (22, .ireturn, []) := rfl
theorem s_240_15 {d : Nat} {σ : xS} {ls : xL} {Q : xR → xS → Prop} {x : Int32} : G d 240 15 ls [.int x] σ Q ↔ Q (.inl (some (.int x))) σ := gs_reti f_240_15 rfl
theorem f_240_16 : ft 240 16 = some (23, .astore 5, []) := rfl
theorem s_240_16 {d : Nat} {σ : xS} {st : List Value} {Q : xR → xS → Prop} {l0 l1 l2 l3 l4 l5 : Option Value} {x : Nat} (h : x < 1000000) : G d 240 16 [l0, l1, l2, l3, l4, l5] (.ref x :: st) σ Q ↔ G d 240 17 [l0, l1, l2, l3, ykl l4, some (.ref x)] st σ Q := by
  cases l4 with
  | none => exact gs_go f_240_16 (if_pos ⟨(show (5 : Nat) < 6 by decide), h⟩)
  | some v => cases v <;> exact gs_go f_240_16 (if_pos ⟨(show (5 : Nat) < 6 by decide), h⟩)
theorem f_240_17 : ft 240 17 = some (25, .iconst 3, []) := rfl
theorem s_240_17 {d : Nat} {σ : xS} {st : List Value} {Q : xR → xS → Prop} {l0 l1 l2 l3 l4 l5 : Option Value} : G d 240 17 [l0, l1, l2, l3, l4, l5] st σ Q ↔ G d 240 18 [l0, l1, l2, l3, l4, l5] (.int (3) :: st) σ Q := gs_go f_240_17 rfl
theorem f_240_18 : ft 240 18 = some (26, .ireturn, []) := rfl
theorem s_240_18 {d : Nat} {σ : xS} {ls : xL} {Q : xR → xS → Prop} {x : Int32} : G d 240 18 ls [.int x] σ Q ↔ Q (.inl (some (.int x))) σ := gs_reti f_240_18 rfl
theorem f_240_19 : ft 240 19 = some (27, .iconst 0, []) := rfl
theorem s_240_19 {d : Nat} {σ : xS} {st : List Value} {Q : xR → xS → Prop} {l0 l1 l2 l3 l4 l5 : Option Value} : G d 240 19 [l0, l1, l2, l3, l4, l5] st σ Q ↔ G d 240 20 [l0, l1, l2, l3, l4, l5] (.int (0) :: st) σ Q := gs_go f_240_19 rfl
theorem f_240_20 : ft 240 20 = some (28, .ireturn, []) := rfl
theorem s_240_20 {d : Nat} {σ : xS} {ls : xL} {Q : xR → xS → Prop} {x : Int32} : G d 240 20 ls [.int x] σ Q ↔ Q (.inl (some (.int x))) σ := gs_reti f_240_20 rfl
theorem f_241_0 : ft 241 0 = some (0, .aload_n 3, []) := rfl
theorem s_241_0 {d : Nat} {σ : xS} {st : List Value} {Q : xR → xS → Prop} {l0 l1 l2 l4 : Option Value} {x : Nat} : G d 241 0 [l0, l1, l2, some (.ref x), l4] st σ Q ↔ G d 241 1 [l0, l1, l2, some (.ref x), l4] (.ref x :: st) σ Q := gs_go f_241_0 rfl
theorem f_241_1 : ft 241 1 = some (1, .iconst 0, []) := rfl
theorem s_241_1 {d : Nat} {σ : xS} {st : List Value} {Q : xR → xS → Prop} {l0 l1 l2 l3 l4 : Option Value} : G d 241 1 [l0, l1, l2, l3, l4] st σ Q ↔ G d 241 2 [l0, l1, l2, l3, l4] (.int (0) :: st) σ Q := gs_go f_241_1 rfl
theorem f_241_2 : ft 241 2 = some (2, .aload_n 0, []) := rfl
theorem s_241_2 {d : Nat} {σ : xS} {st : List Value} {Q : xR → xS → Prop} {l1 l2 l3 l4 : Option Value} {x : Nat} : G d 241 2 [some (.ref x), l1, l2, l3, l4] st σ Q ↔ G d 241 3 [some (.ref x), l1, l2, l3, l4] (.ref x :: st) σ Q := gs_go f_241_2 rfl
theorem f_241_3 : ft 241 3 = some (3, .iload_n 1, []) := rfl
theorem s_241_3 {d : Nat} {σ : xS} {st : List Value} {Q : xR → xS → Prop} {l0 l2 l3 l4 : Option Value} {x : Int32} : G d 241 3 [l0, some (.int x), l2, l3, l4] st σ Q ↔ G d 241 4 [l0, some (.int x), l2, l3, l4] (.int x :: st) σ Q := gs_go f_241_3 rfl
theorem f_241_4 : ft 241 4 = some (4, .iload_n 2, []) := rfl
theorem s_241_4 {d : Nat} {σ : xS} {st : List Value} {Q : xR → xS → Prop} {l0 l1 l3 l4 : Option Value} {x : Int32} : G d 241 4 [l0, l1, some (.int x), l3, l4] st σ Q ↔ G d 241 5 [l0, l1, some (.int x), l3, l4] (.int x :: st) σ Q := gs_go f_241_4 rfl
theorem f_241_5 : ft 241 5 = some (5, .invokevirtual 66, [114, 3, 0, 1142]) := rfl
theorem s_241_5 {d : Nat} {t : yT} {st : List Value} {Q : xR → xS → Prop} {l0 l1 l2 l3 l4 : Option Value} {a0 : Nat} {a1 : Int32} {a2 : Int32} (ho : yisO 7 a0) : G (d + 1) 241 5 [l0, l1, l2, l3, l4] (.int a2 :: .int a1 :: .ref a0 :: st) (yemb t) Q ↔ xcat st ≤ 8 ∧ Cl d 114 [.ref a0, .int a1, .int a2] (yemb t) (Gk (d + 1) 241 5 [l0, l1, l2, l3, l4] st Q) := gs_call f_241_5 ((xinv_call (i := 5) (n := 1142) (ls := [l0, l1, l2, l3, l4]) (kind := 0) (σ := yemb t) (by decide)).trans (xcall_vi [.int a2, .int a1, .ref a0] rfl rfl (show (3 : Nat) ≤ 4 by decide) rfl ho))
theorem f_241_6 : ft 241 6 = some (8, .i2l, []) := rfl
theorem s_241_6 {d : Nat} {σ : xS} {st : List Value} {Q : xR → xS → Prop} {l0 l1 l2 l3 l4 : Option Value} {x : Int32} : G d 241 6 [l0, l1, l2, l3, l4] (.int x :: st) σ Q ↔ G d 241 7 [l0, l1, l2, l3, l4] (.long x.toInt64 :: st) σ Q := gs_go f_241_6 rfl
theorem f_241_7 : ft 241 7 = some (9, .lastore, []) := rfl
theorem s_241_7 {d : Nat} {t : yT} {st : List Value} {Q : xR → xS → Prop} {l0 l1 l2 l3 l4 : Option Value} {a : Nat} {x : Int32} {v : Int64} (ha : yLA a) : G d 241 7 [l0, l1, l2, l3, l4] (.long v :: .int x :: .ref a :: st) (yemb t) Q ↔ yix x (yn a) ∧ G d 241 8 [l0, l1, l2, l3, l4] st (yemb (t.sL a x.toNatClampNeg v)) Q := gs_last f_241_7 ha
theorem f_241_8 : ft 241 8 = some (10, .goto 11, [15]) := rfl
theorem s_241_8 {d : Nat} {σ : xS} {st : List Value} {Q : xR → xS → Prop} {l0 l1 l2 l3 l4 : Option Value} : G d 241 8 [l0, l1, l2, l3, l4] st σ Q ↔ G d 241 15 [l0, l1, l2, l3, l4] st σ Q := gs_go f_241_8 rfl
theorem f_241_9 : ft 241 9 = some (13, .astore 4, []) := rfl
theorem s_241_9 {d : Nat} {σ : xS} {st : List Value} {Q : xR → xS → Prop} {l0 l1 l2 l3 l4 : Option Value} {x : Nat} (h : x < 1000000) : G d 241 9 [l0, l1, l2, l3, l4] (.ref x :: st) σ Q ↔ G d 241 10 [l0, l1, l2, ykl l3, some (.ref x)] st σ Q := by
  cases l3 with
  | none => exact gs_go f_241_9 (if_pos ⟨(show (4 : Nat) < 5 by decide), h⟩)
  | some v => cases v <;> exact gs_go f_241_9 (if_pos ⟨(show (4 : Nat) < 5 by decide), h⟩)
theorem f_241_10 : ft 241 10 = some (15, .iconst 1, []) := rfl
theorem s_241_10 {d : Nat} {σ : xS} {st : List Value} {Q : xR → xS → Prop} {l0 l1 l2 l3 l4 : Option Value} : G d 241 10 [l0, l1, l2, l3, l4] st σ Q ↔ G d 241 11 [l0, l1, l2, l3, l4] (.int (1) :: st) σ Q := gs_go f_241_10 rfl
theorem f_241_11 : ft 241 11 = some (16, .ireturn, []) := rfl
theorem s_241_11 {d : Nat} {σ : xS} {ls : xL} {Q : xR → xS → Prop} {x : Int32} : G d 241 11 ls [.int x] σ Q ↔ Q (.inl (some (.int x))) σ := gs_reti f_241_11 rfl
theorem f_241_12 : ft 241 12 = some (17, .astore 4, []) := rfl
theorem s_241_12 {d : Nat} {σ : xS} {st : List Value} {Q : xR → xS → Prop} {l0 l1 l2 l3 l4 : Option Value} {x : Nat} (h : x < 1000000) : G d 241 12 [l0, l1, l2, l3, l4] (.ref x :: st) σ Q ↔ G d 241 13 [l0, l1, l2, ykl l3, some (.ref x)] st σ Q := by
  cases l3 with
  | none => exact gs_go f_241_12 (if_pos ⟨(show (4 : Nat) < 5 by decide), h⟩)
  | some v => cases v <;> exact gs_go f_241_12 (if_pos ⟨(show (4 : Nat) < 5 by decide), h⟩)
theorem f_241_13 : ft 241 13 = some (19, .iconst 2, []) := rfl
theorem s_241_13 {d : Nat} {σ : xS} {st : List Value} {Q : xR → xS → Prop} {l0 l1 l2 l3 l4 : Option Value} : G d 241 13 [l0, l1, l2, l3, l4] st σ Q ↔ G d 241 14 [l0, l1, l2, l3, l4] (.int (2) :: st) σ Q := gs_go f_241_13 rfl
theorem f_241_14 : ft 241 14 = some (20, .ireturn, []) := rfl
theorem s_241_14 {d : Nat} {σ : xS} {ls : xL} {Q : xR → xS → Prop} {x : Int32} : G d 241 14 ls [.int x] σ Q ↔ Q (.inl (some (.int x))) σ := gs_reti f_241_14 rfl
theorem f_241_15 : ft 241 15 = some (21, .iconst 0, []) := rfl
theorem s_241_15 {d : Nat} {σ : xS} {st : List Value} {Q : xR → xS → Prop} {l0 l1 l2 l3 l4 : Option Value} : G d 241 15 [l0, l1, l2, l3, l4] st σ Q ↔ G d 241 16 [l0, l1, l2, l3, l4] (.int (0) :: st) σ Q := gs_go f_241_15 rfl
theorem f_241_16 : ft 241 16 = some (22, .ireturn, []) := rfl
theorem s_241_16 {d : Nat} {σ : xS} {ls : xL} {Q : xR → xS → Prop} {x : Int32} : G d 241 16 ls [.int x] σ Q ↔ Q (.inl (some (.int x))) σ := gs_reti f_241_16 rfl
theorem f_242_0 : ft 242 0 = some (0, .aload_n 2, []) := rfl
theorem s_242_0 {d : Nat} {σ : xS} {st : List Value} {Q : xR → xS → Prop} {l0 l1 l3 : Option Value} {x : Nat} : G d 242 0 [l0, l1, some (.ref x), l3] st σ Q ↔ G d 242 1 [l0, l1, some (.ref x), l3] (.ref x :: st) σ Q := gs_go f_242_0 rfl
theorem f_242_1 : ft 242 1 = some (1, .iconst 0, []) := rfl
theorem s_242_1 {d : Nat} {σ : xS} {st : List Value} {Q : xR → xS → Prop} {l0 l1 l2 l3 : Option Value} : G d 242 1 [l0, l1, l2, l3] st σ Q ↔ G d 242 2 [l0, l1, l2, l3] (.int (0) :: st) σ Q := gs_go f_242_1 rfl
theorem f_242_2 : ft 242 2 = some (2, .aload_n 0, []) := rfl
theorem s_242_2 {d : Nat} {σ : xS} {st : List Value} {Q : xR → xS → Prop} {l1 l2 l3 : Option Value} {x : Nat} : G d 242 2 [some (.ref x), l1, l2, l3] st σ Q ↔ G d 242 3 [some (.ref x), l1, l2, l3] (.ref x :: st) σ Q := gs_go f_242_2 rfl
theorem f_242_3 : ft 242 3 = some (3, .iload_n 1, []) := rfl
theorem s_242_3 {d : Nat} {σ : xS} {st : List Value} {Q : xR → xS → Prop} {l0 l2 l3 : Option Value} {x : Int32} : G d 242 3 [l0, some (.int x), l2, l3] st σ Q ↔ G d 242 4 [l0, some (.int x), l2, l3] (.int x :: st) σ Q := gs_go f_242_3 rfl
theorem f_242_4 : ft 242 4 = some (4, .invokevirtual 69, [115, 2, 0, 1149]) := rfl
theorem s_242_4 {d : Nat} {t : yT} {st : List Value} {Q : xR → xS → Prop} {l0 l1 l2 l3 : Option Value} {a0 : Nat} {a1 : Int32} (ho : yisO 7 a0) : G (d + 1) 242 4 [l0, l1, l2, l3] (.int a1 :: .ref a0 :: st) (yemb t) Q ↔ xcat st ≤ 8 ∧ Cl d 115 [.ref a0, .int a1] (yemb t) (Gk (d + 1) 242 4 [l0, l1, l2, l3] st Q) := gs_call f_242_4 ((xinv_call (i := 4) (n := 1149) (ls := [l0, l1, l2, l3]) (kind := 0) (σ := yemb t) (by decide)).trans (xcall_vi [.int a1, .ref a0] rfl rfl (show (2 : Nat) ≤ 2 by decide) rfl ho))
theorem f_242_5 : ft 242 5 = some (7, .i2l, []) := rfl
theorem s_242_5 {d : Nat} {σ : xS} {st : List Value} {Q : xR → xS → Prop} {l0 l1 l2 l3 : Option Value} {x : Int32} : G d 242 5 [l0, l1, l2, l3] (.int x :: st) σ Q ↔ G d 242 6 [l0, l1, l2, l3] (.long x.toInt64 :: st) σ Q := gs_go f_242_5 rfl
theorem f_242_6 : ft 242 6 = some (8, .lastore, []) := rfl
theorem s_242_6 {d : Nat} {t : yT} {st : List Value} {Q : xR → xS → Prop} {l0 l1 l2 l3 : Option Value} {a : Nat} {x : Int32} {v : Int64} (ha : yLA a) : G d 242 6 [l0, l1, l2, l3] (.long v :: .int x :: .ref a :: st) (yemb t) Q ↔ yix x (yn a) ∧ G d 242 7 [l0, l1, l2, l3] st (yemb (t.sL a x.toNatClampNeg v)) Q := gs_last f_242_6 ha
theorem f_242_7 : ft 242 7 = some (9, .goto 6, [11]) := rfl
theorem s_242_7 {d : Nat} {σ : xS} {st : List Value} {Q : xR → xS → Prop} {l0 l1 l2 l3 : Option Value} : G d 242 7 [l0, l1, l2, l3] st σ Q ↔ G d 242 11 [l0, l1, l2, l3] st σ Q := gs_go f_242_7 rfl
theorem f_242_8 : ft 242 8 = some (12, .astore_n 3, []) := rfl
theorem s_242_8 {d : Nat} {σ : xS} {st : List Value} {Q : xR → xS → Prop} {l0 l1 l2 l3 : Option Value} {x : Nat} (h : x < 1000000) : G d 242 8 [l0, l1, l2, l3] (.ref x :: st) σ Q ↔ G d 242 9 [l0, l1, ykl l2, some (.ref x)] st σ Q := by
  cases l2 with
  | none => exact gs_go f_242_8 (if_pos ⟨(show (3 : Nat) < 4 by decide), h⟩)
  | some v => cases v <;> exact gs_go f_242_8 (if_pos ⟨(show (3 : Nat) < 4 by decide), h⟩)
theorem f_242_9 : ft 242 9 = some (13, .iconst 1, []) := rfl
theorem s_242_9 {d : Nat} {σ : xS} {st : List Value} {Q : xR → xS → Prop} {l0 l1 l2 l3 : Option Value} : G d 242 9 [l0, l1, l2, l3] st σ Q ↔ G d 242 10 [l0, l1, l2, l3] (.int (1) :: st) σ Q := gs_go f_242_9 rfl
theorem f_242_10 : ft 242 10 = some (14, .ireturn, []) := rfl
theorem s_242_10 {d : Nat} {σ : xS} {ls : xL} {Q : xR → xS → Prop} {x : Int32} : G d 242 10 ls [.int x] σ Q ↔ Q (.inl (some (.int x))) σ := gs_reti f_242_10 rfl
theorem f_242_11 : ft 242 11 = some (15, .iconst 0, []) := rfl
theorem s_242_11 {d : Nat} {σ : xS} {st : List Value} {Q : xR → xS → Prop} {l0 l1 l2 l3 : Option Value} : G d 242 11 [l0, l1, l2, l3] st σ Q ↔ G d 242 12 [l0, l1, l2, l3] (.int (0) :: st) σ Q := gs_go f_242_11 rfl
theorem f_242_12 : ft 242 12 = some (16, .ireturn, []) := rfl
theorem s_242_12 {d : Nat} {σ : xS} {ls : xL} {Q : xR → xS → Prop} {x : Int32} : G d 242 12 ls [.int x] σ Q ↔ Q (.inl (some (.int x))) σ := gs_reti f_242_12 rfl
theorem f_243_0 : ft 243 0 = some (0, .aload_n 2, []) := rfl
theorem s_243_0 {d : Nat} {σ : xS} {st : List Value} {Q : xR → xS → Prop} {l0 l1 l3 : Option Value} {x : Nat} : G d 243 0 [l0, l1, some (.ref x), l3] st σ Q ↔ G d 243 1 [l0, l1, some (.ref x), l3] (.ref x :: st) σ Q := gs_go f_243_0 rfl
theorem f_243_1 : ft 243 1 = some (1, .iconst 0, []) := rfl
theorem s_243_1 {d : Nat} {σ : xS} {st : List Value} {Q : xR → xS → Prop} {l0 l1 l2 l3 : Option Value} : G d 243 1 [l0, l1, l2, l3] st σ Q ↔ G d 243 2 [l0, l1, l2, l3] (.int (0) :: st) σ Q := gs_go f_243_1 rfl
theorem f_243_2 : ft 243 2 = some (2, .aload_n 0, []) := rfl
theorem s_243_2 {d : Nat} {σ : xS} {st : List Value} {Q : xR → xS → Prop} {l1 l2 l3 : Option Value} {x : Nat} : G d 243 2 [some (.ref x), l1, l2, l3] st σ Q ↔ G d 243 3 [some (.ref x), l1, l2, l3] (.ref x :: st) σ Q := gs_go f_243_2 rfl
theorem f_243_3 : ft 243 3 = some (3, .iload_n 1, []) := rfl
theorem s_243_3 {d : Nat} {σ : xS} {st : List Value} {Q : xR → xS → Prop} {l0 l2 l3 : Option Value} {x : Int32} : G d 243 3 [l0, some (.int x), l2, l3] st σ Q ↔ G d 243 4 [l0, some (.int x), l2, l3] (.int x :: st) σ Q := gs_go f_243_3 rfl
theorem f_243_4 : ft 243 4 = some (4, .invokevirtual 72, [116, 2, 0, 1157]) := rfl
theorem s_243_4 {d : Nat} {t : yT} {st : List Value} {Q : xR → xS → Prop} {l0 l1 l2 l3 : Option Value} {a0 : Nat} {a1 : Int32} (ho : yisO 7 a0) : G (d + 1) 243 4 [l0, l1, l2, l3] (.int a1 :: .ref a0 :: st) (yemb t) Q ↔ xcat st ≤ 8 ∧ Cl d 116 [.ref a0, .int a1] (yemb t) (Gk (d + 1) 243 4 [l0, l1, l2, l3] st Q) := gs_call f_243_4 ((xinv_call (i := 4) (n := 1157) (ls := [l0, l1, l2, l3]) (kind := 0) (σ := yemb t) (by decide)).trans (xcall_vi [.int a1, .ref a0] rfl rfl (show (2 : Nat) ≤ 2 by decide) rfl ho))
theorem f_243_5 : ft 243 5 = some (7, .i2l, []) := rfl
theorem s_243_5 {d : Nat} {σ : xS} {st : List Value} {Q : xR → xS → Prop} {l0 l1 l2 l3 : Option Value} {x : Int32} : G d 243 5 [l0, l1, l2, l3] (.int x :: st) σ Q ↔ G d 243 6 [l0, l1, l2, l3] (.long x.toInt64 :: st) σ Q := gs_go f_243_5 rfl
theorem f_243_6 : ft 243 6 = some (8, .lastore, []) := rfl
theorem s_243_6 {d : Nat} {t : yT} {st : List Value} {Q : xR → xS → Prop} {l0 l1 l2 l3 : Option Value} {a : Nat} {x : Int32} {v : Int64} (ha : yLA a) : G d 243 6 [l0, l1, l2, l3] (.long v :: .int x :: .ref a :: st) (yemb t) Q ↔ yix x (yn a) ∧ G d 243 7 [l0, l1, l2, l3] st (yemb (t.sL a x.toNatClampNeg v)) Q := gs_last f_243_6 ha
theorem f_243_7 : ft 243 7 = some (9, .goto 9, [14]) := rfl
theorem s_243_7 {d : Nat} {σ : xS} {st : List Value} {Q : xR → xS → Prop} {l0 l1 l2 l3 : Option Value} : G d 243 7 [l0, l1, l2, l3] st σ Q ↔ G d 243 14 [l0, l1, l2, l3] st σ Q := gs_go f_243_7 rfl
theorem f_243_8 : ft 243 8 = some (12, .astore_n 3, []) := rfl
theorem s_243_8 {d : Nat} {σ : xS} {st : List Value} {Q : xR → xS → Prop} {l0 l1 l2 l3 : Option Value} {x : Nat} (h : x < 1000000) : G d 243 8 [l0, l1, l2, l3] (.ref x :: st) σ Q ↔ G d 243 9 [l0, l1, ykl l2, some (.ref x)] st σ Q := by
  cases l2 with
  | none => exact gs_go f_243_8 (if_pos ⟨(show (3 : Nat) < 4 by decide), h⟩)
  | some v => cases v <;> exact gs_go f_243_8 (if_pos ⟨(show (3 : Nat) < 4 by decide), h⟩)
theorem f_243_9 : ft 243 9 = some (13, .iconst 1, []) := rfl
theorem s_243_9 {d : Nat} {σ : xS} {st : List Value} {Q : xR → xS → Prop} {l0 l1 l2 l3 : Option Value} : G d 243 9 [l0, l1, l2, l3] st σ Q ↔ G d 243 10 [l0, l1, l2, l3] (.int (1) :: st) σ Q := gs_go f_243_9 rfl
theorem f_243_10 : ft 243 10 = some (14, .ireturn, []) := rfl
theorem s_243_10 {d : Nat} {σ : xS} {ls : xL} {Q : xR → xS → Prop} {x : Int32} : G d 243 10 ls [.int x] σ Q ↔ Q (.inl (some (.int x))) σ := gs_reti f_243_10 rfl
theorem f_243_11 : ft 243 11 = some (15, .astore_n 3, []) := rfl
theorem s_243_11 {d : Nat} {σ : xS} {st : List Value} {Q : xR → xS → Prop} {l0 l1 l2 l3 : Option Value} {x : Nat} (h : x < 1000000) : G d 243 11 [l0, l1, l2, l3] (.ref x :: st) σ Q ↔ G d 243 12 [l0, l1, ykl l2, some (.ref x)] st σ Q := by
  cases l2 with
  | none => exact gs_go f_243_11 (if_pos ⟨(show (3 : Nat) < 4 by decide), h⟩)
  | some v => cases v <;> exact gs_go f_243_11 (if_pos ⟨(show (3 : Nat) < 4 by decide), h⟩)
theorem f_243_12 : ft 243 12 = some (16, .iconst 2, []) := rfl
theorem s_243_12 {d : Nat} {σ : xS} {st : List Value} {Q : xR → xS → Prop} {l0 l1 l2 l3 : Option Value} : G d 243 12 [l0, l1, l2, l3] st σ Q ↔ G d 243 13 [l0, l1, l2, l3] (.int (2) :: st) σ Q := gs_go f_243_12 rfl
theorem f_243_13 : ft 243 13 = some (17, .ireturn, []) := rfl
theorem s_243_13 {d : Nat} {σ : xS} {ls : xL} {Q : xR → xS → Prop} {x : Int32} : G d 243 13 ls [.int x] σ Q ↔ Q (.inl (some (.int x))) σ := gs_reti f_243_13 rfl
theorem f_243_14 : ft 243 14 = some (18, .iconst 0, []) := rfl
theorem s_243_14 {d : Nat} {σ : xS} {st : List Value} {Q : xR → xS → Prop} {l0 l1 l2 l3 : Option Value} : G d 243 14 [l0, l1, l2, l3] st σ Q ↔ G d 243 15 [l0, l1, l2, l3] (.int (0) :: st) σ Q := gs_go f_243_14 rfl
theorem f_243_15 : ft 243 15 = some (19, .ireturn, []) := rfl
theorem s_243_15 {d : Nat} {σ : xS} {ls : xL} {Q : xR → xS → Prop} {x : Int32} : G d 243 15 ls [.int x] σ Q ↔ Q (.inl (some (.int x))) σ := gs_reti f_243_15 rfl

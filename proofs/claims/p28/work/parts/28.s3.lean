theorem f_216_0 : ft 216 0 = some (0, .lload_n 0, []) := rfl
theorem s_216_0 {d : Nat} {σ : xS} {st : List Value} {Q : xR → xS → Prop} {l1 : Option Value} {x : Int64} : G d 216 0 [some (.long x), l1] st σ Q ↔ G d 216 1 [some (.long x), l1] (.long x :: st) σ Q := gs_go f_216_0 rfl
theorem f_216_1 : ft 216 1 = some (1, .lload_n 0, []) := rfl
theorem s_216_1 {d : Nat} {σ : xS} {st : List Value} {Q : xR → xS → Prop} {l1 : Option Value} {x : Int64} : G d 216 1 [some (.long x), l1] st σ Q ↔ G d 216 2 [some (.long x), l1] (.long x :: st) σ Q := gs_go f_216_1 rfl
theorem f_216_2 : ft 216 2 = some (2, .iconst 1, []) := rfl
theorem s_216_2 {d : Nat} {σ : xS} {st : List Value} {Q : xR → xS → Prop} {l0 l1 : Option Value} : G d 216 2 [l0, l1] st σ Q ↔ G d 216 3 [l0, l1] (.int (1) :: st) σ Q := gs_go f_216_2 rfl
theorem f_216_3 : ft 216 3 = some (3, .lushr, []) := rfl
theorem s_216_3 {d : Nat} {σ : xS} {st : List Value} {Q : xR → xS → Prop} {l0 l1 : Option Value} {x : Int64} {y : Int32} : G d 216 3 [l0, l1] (.int y :: .long x :: st) σ Q ↔ G d 216 4 [l0, l1] (.long ((x.toUInt64 >>> (y.toInt64.toUInt64 &&& Int64.toUInt64 63)).toInt64) :: st) σ Q := gs_go f_216_3 rfl
theorem f_216_4 : ft 216 4 = some (4, .ldc2_w 314, [6148914691236517205, 804]) := rfl
theorem s_216_4 {d : Nat} {σ : xS} {st : List Value} {Q : xR → xS → Prop} {l0 l1 : Option Value} : G d 216 4 [l0, l1] st σ Q ↔ G d 216 5 [l0, l1] (.long (6148914691236517205) :: st) σ Q := gs_go f_216_4 rfl
theorem f_216_5 : ft 216 5 = some (7, .land, []) := rfl
theorem s_216_5 {d : Nat} {σ : xS} {st : List Value} {Q : xR → xS → Prop} {l0 l1 : Option Value} {x y : Int64} : G d 216 5 [l0, l1] (.long y :: .long x :: st) σ Q ↔ G d 216 6 [l0, l1] (.long (x &&& y) :: st) σ Q := gs_go f_216_5 rfl
theorem f_216_6 : ft 216 6 = some (8, .lsub, []) := rfl
theorem s_216_6 {d : Nat} {σ : xS} {st : List Value} {Q : xR → xS → Prop} {l0 l1 : Option Value} {x y : Int64} : G d 216 6 [l0, l1] (.long y :: .long x :: st) σ Q ↔ G d 216 7 [l0, l1] (.long (x - y) :: st) σ Q := gs_go f_216_6 rfl
theorem f_216_7 : ft 216 7 = some (9, .lstore_n 0, []) := rfl
theorem s_216_7 {d : Nat} {σ : xS} {st : List Value} {Q : xR → xS → Prop} {l0 l1 : Option Value} {x : Int64} : G d 216 7 [l0, l1] (.long x :: st) σ Q ↔ G d 216 8 [some (.long x), none] st σ Q := gs_go f_216_7 rfl
theorem f_216_8 : ft 216 8 = some (10, .lload_n 0, []) := rfl
theorem s_216_8 {d : Nat} {σ : xS} {st : List Value} {Q : xR → xS → Prop} {l1 : Option Value} {x : Int64} : G d 216 8 [some (.long x), l1] st σ Q ↔ G d 216 9 [some (.long x), l1] (.long x :: st) σ Q := gs_go f_216_8 rfl
theorem f_216_9 : ft 216 9 = some (11, .ldc2_w 316, [3689348814741910323, 805]) := rfl
theorem s_216_9 {d : Nat} {σ : xS} {st : List Value} {Q : xR → xS → Prop} {l0 l1 : Option Value} : G d 216 9 [l0, l1] st σ Q ↔ G d 216 10 [l0, l1] (.long (3689348814741910323) :: st) σ Q := gs_go f_216_9 rfl
theorem f_216_10 : ft 216 10 = some (14, .land, []) := rfl
theorem s_216_10 {d : Nat} {σ : xS} {st : List Value} {Q : xR → xS → Prop} {l0 l1 : Option Value} {x y : Int64} : G d 216 10 [l0, l1] (.long y :: .long x :: st) σ Q ↔ G d 216 11 [l0, l1] (.long (x &&& y) :: st) σ Q := gs_go f_216_10 rfl
theorem f_216_11 : ft 216 11 = some (15, .lload_n 0, []) := rfl
theorem s_216_11 {d : Nat} {σ : xS} {st : List Value} {Q : xR → xS → Prop} {l1 : Option Value} {x : Int64} : G d 216 11 [some (.long x), l1] st σ Q ↔ G d 216 12 [some (.long x), l1] (.long x :: st) σ Q := gs_go f_216_11 rfl
theorem f_216_12 : ft 216 12 = some (16, .iconst 2, []) := rfl
theorem s_216_12 {d : Nat} {σ : xS} {st : List Value} {Q : xR → xS → Prop} {l0 l1 : Option Value} : G d 216 12 [l0, l1] st σ Q ↔ G d 216 13 [l0, l1] (.int (2) :: st) σ Q := gs_go f_216_12 rfl
theorem f_216_13 : ft 216 13 = some (17, .lushr, []) := rfl
theorem s_216_13 {d : Nat} {σ : xS} {st : List Value} {Q : xR → xS → Prop} {l0 l1 : Option Value} {x : Int64} {y : Int32} : G d 216 13 [l0, l1] (.int y :: .long x :: st) σ Q ↔ G d 216 14 [l0, l1] (.long ((x.toUInt64 >>> (y.toInt64.toUInt64 &&& Int64.toUInt64 63)).toInt64) :: st) σ Q := gs_go f_216_13 rfl
theorem f_216_14 : ft 216 14 = some (18, .ldc2_w 316, [3689348814741910323, 805]) := rfl
theorem s_216_14 {d : Nat} {σ : xS} {st : List Value} {Q : xR → xS → Prop} {l0 l1 : Option Value} : G d 216 14 [l0, l1] st σ Q ↔ G d 216 15 [l0, l1] (.long (3689348814741910323) :: st) σ Q := gs_go f_216_14 rfl
theorem f_216_15 : ft 216 15 = some (21, .land, []) := rfl
theorem s_216_15 {d : Nat} {σ : xS} {st : List Value} {Q : xR → xS → Prop} {l0 l1 : Option Value} {x y : Int64} : G d 216 15 [l0, l1] (.long y :: .long x :: st) σ Q ↔ G d 216 16 [l0, l1] (.long (x &&& y) :: st) σ Q := gs_go f_216_15 rfl
theorem f_216_16 : ft 216 16 = some (22, .ladd, []) := rfl
theorem s_216_16 {d : Nat} {σ : xS} {st : List Value} {Q : xR → xS → Prop} {l0 l1 : Option Value} {x y : Int64} : G d 216 16 [l0, l1] (.long y :: .long x :: st) σ Q ↔ G d 216 17 [l0, l1] (.long (x + y) :: st) σ Q := gs_go f_216_16 rfl
theorem f_216_17 : ft 216 17 = some (23, .lstore_n 0, []) := rfl
theorem s_216_17 {d : Nat} {σ : xS} {st : List Value} {Q : xR → xS → Prop} {l0 l1 : Option Value} {x : Int64} : G d 216 17 [l0, l1] (.long x :: st) σ Q ↔ G d 216 18 [some (.long x), none] st σ Q := gs_go f_216_17 rfl
theorem f_216_18 : ft 216 18 = some (24, .lload_n 0, []) := rfl
theorem s_216_18 {d : Nat} {σ : xS} {st : List Value} {Q : xR → xS → Prop} {l1 : Option Value} {x : Int64} : G d 216 18 [some (.long x), l1] st σ Q ↔ G d 216 19 [some (.long x), l1] (.long x :: st) σ Q := gs_go f_216_18 rfl
theorem f_216_19 : ft 216 19 = some (25, .lload_n 0, []) := rfl
theorem s_216_19 {d : Nat} {σ : xS} {st : List Value} {Q : xR → xS → Prop} {l1 : Option Value} {x : Int64} : G d 216 19 [some (.long x), l1] st σ Q ↔ G d 216 20 [some (.long x), l1] (.long x :: st) σ Q := gs_go f_216_19 rfl
theorem f_216_20 : ft 216 20 = some (26, .iconst 4, []) := rfl
theorem s_216_20 {d : Nat} {σ : xS} {st : List Value} {Q : xR → xS → Prop} {l0 l1 : Option Value} : G d 216 20 [l0, l1] st σ Q ↔ G d 216 21 [l0, l1] (.int (4) :: st) σ Q := gs_go f_216_20 rfl
theorem f_216_21 : ft 216 21 = some (27, .lushr, []) := rfl
theorem s_216_21 {d : Nat} {σ : xS} {st : List Value} {Q : xR → xS → Prop} {l0 l1 : Option Value} {x : Int64} {y : Int32} : G d 216 21 [l0, l1] (.int y :: .long x :: st) σ Q ↔ G d 216 22 [l0, l1] (.long ((x.toUInt64 >>> (y.toInt64.toUInt64 &&& Int64.toUInt64 63)).toInt64) :: st) σ Q := gs_go f_216_21 rfl
theorem f_216_22 : ft 216 22 = some (28, .ladd, []) := rfl
theorem s_216_22 {d : Nat} {σ : xS} {st : List Value} {Q : xR → xS → Prop} {l0 l1 : Option Value} {x y : Int64} : G d 216 22 [l0, l1] (.long y :: .long x :: st) σ Q ↔ G d 216 23 [l0, l1] (.long (x + y) :: st) σ Q := gs_go f_216_22 rfl
theorem f_216_23 : ft 216 23 = some (29, .ldc2_w 318, [1085102592571150095, 806]) := rfl
theorem s_216_23 {d : Nat} {σ : xS} {st : List Value} {Q : xR → xS → Prop} {l0 l1 : Option Value} : G d 216 23 [l0, l1] st σ Q ↔ G d 216 24 [l0, l1] (.long (1085102592571150095) :: st) σ Q := gs_go f_216_23 rfl
theorem f_216_24 : ft 216 24 = some (32, .land, []) := rfl
theorem s_216_24 {d : Nat} {σ : xS} {st : List Value} {Q : xR → xS → Prop} {l0 l1 : Option Value} {x y : Int64} : G d 216 24 [l0, l1] (.long y :: .long x :: st) σ Q ↔ G d 216 25 [l0, l1] (.long (x &&& y) :: st) σ Q := gs_go f_216_24 rfl
theorem f_216_25 : ft 216 25 = some (33, .lstore_n 0, []) := rfl
theorem s_216_25 {d : Nat} {σ : xS} {st : List Value} {Q : xR → xS → Prop} {l0 l1 : Option Value} {x : Int64} : G d 216 25 [l0, l1] (.long x :: st) σ Q ↔ G d 216 26 [some (.long x), none] st σ Q := gs_go f_216_25 rfl
theorem f_216_26 : ft 216 26 = some (34, .lload_n 0, []) := rfl
theorem s_216_26 {d : Nat} {σ : xS} {st : List Value} {Q : xR → xS → Prop} {l1 : Option Value} {x : Int64} : G d 216 26 [some (.long x), l1] st σ Q ↔ G d 216 27 [some (.long x), l1] (.long x :: st) σ Q := gs_go f_216_26 rfl
theorem f_216_27 : ft 216 27 = some (35, .lload_n 0, []) := rfl
theorem s_216_27 {d : Nat} {σ : xS} {st : List Value} {Q : xR → xS → Prop} {l1 : Option Value} {x : Int64} : G d 216 27 [some (.long x), l1] st σ Q ↔ G d 216 28 [some (.long x), l1] (.long x :: st) σ Q := gs_go f_216_27 rfl
theorem f_216_28 : ft 216 28 = some (36, .bipush 8, []) := rfl
theorem s_216_28 {d : Nat} {σ : xS} {st : List Value} {Q : xR → xS → Prop} {l0 l1 : Option Value} : G d 216 28 [l0, l1] st σ Q ↔ G d 216 29 [l0, l1] (.int (8) :: st) σ Q := gs_go f_216_28 rfl
theorem f_216_29 : ft 216 29 = some (38, .lushr, []) := rfl
theorem s_216_29 {d : Nat} {σ : xS} {st : List Value} {Q : xR → xS → Prop} {l0 l1 : Option Value} {x : Int64} {y : Int32} : G d 216 29 [l0, l1] (.int y :: .long x :: st) σ Q ↔ G d 216 30 [l0, l1] (.long ((x.toUInt64 >>> (y.toInt64.toUInt64 &&& Int64.toUInt64 63)).toInt64) :: st) σ Q := gs_go f_216_29 rfl
theorem f_216_30 : ft 216 30 = some (39, .ladd, []) := rfl
theorem s_216_30 {d : Nat} {σ : xS} {st : List Value} {Q : xR → xS → Prop} {l0 l1 : Option Value} {x y : Int64} : G d 216 30 [l0, l1] (.long y :: .long x :: st) σ Q ↔ G d 216 31 [l0, l1] (.long (x + y) :: st) σ Q := gs_go f_216_30 rfl
theorem f_216_31 : ft 216 31 = some (40, .lstore_n 0, []) := rfl
theorem s_216_31 {d : Nat} {σ : xS} {st : List Value} {Q : xR → xS → Prop} {l0 l1 : Option Value} {x : Int64} : G d 216 31 [l0, l1] (.long x :: st) σ Q ↔ G d 216 32 [some (.long x), none] st σ Q := gs_go f_216_31 rfl
theorem f_216_32 : ft 216 32 = some (41, .lload_n 0, []) := rfl
theorem s_216_32 {d : Nat} {σ : xS} {st : List Value} {Q : xR → xS → Prop} {l1 : Option Value} {x : Int64} : G d 216 32 [some (.long x), l1] st σ Q ↔ G d 216 33 [some (.long x), l1] (.long x :: st) σ Q := gs_go f_216_32 rfl
theorem f_216_33 : ft 216 33 = some (42, .lload_n 0, []) := rfl
theorem s_216_33 {d : Nat} {σ : xS} {st : List Value} {Q : xR → xS → Prop} {l1 : Option Value} {x : Int64} : G d 216 33 [some (.long x), l1] st σ Q ↔ G d 216 34 [some (.long x), l1] (.long x :: st) σ Q := gs_go f_216_33 rfl
theorem f_216_34 : ft 216 34 = some (43, .bipush 16, []) := rfl
theorem s_216_34 {d : Nat} {σ : xS} {st : List Value} {Q : xR → xS → Prop} {l0 l1 : Option Value} : G d 216 34 [l0, l1] st σ Q ↔ G d 216 35 [l0, l1] (.int (16) :: st) σ Q := gs_go f_216_34 rfl
theorem f_216_35 : ft 216 35 = some (45, .lushr, []) := rfl
theorem s_216_35 {d : Nat} {σ : xS} {st : List Value} {Q : xR → xS → Prop} {l0 l1 : Option Value} {x : Int64} {y : Int32} : G d 216 35 [l0, l1] (.int y :: .long x :: st) σ Q ↔ G d 216 36 [l0, l1] (.long ((x.toUInt64 >>> (y.toInt64.toUInt64 &&& Int64.toUInt64 63)).toInt64) :: st) σ Q := gs_go f_216_35 rfl
theorem f_216_36 : ft 216 36 = some (46, .ladd, []) := rfl
theorem s_216_36 {d : Nat} {σ : xS} {st : List Value} {Q : xR → xS → Prop} {l0 l1 : Option Value} {x y : Int64} : G d 216 36 [l0, l1] (.long y :: .long x :: st) σ Q ↔ G d 216 37 [l0, l1] (.long (x + y) :: st) σ Q := gs_go f_216_36 rfl
theorem f_216_37 : ft 216 37 = some (47, .lstore_n 0, []) := rfl
theorem s_216_37 {d : Nat} {σ : xS} {st : List Value} {Q : xR → xS → Prop} {l0 l1 : Option Value} {x : Int64} : G d 216 37 [l0, l1] (.long x :: st) σ Q ↔ G d 216 38 [some (.long x), none] st σ Q := gs_go f_216_37 rfl
theorem f_216_38 : ft 216 38 = some (48, .lload_n 0, []) := rfl
theorem s_216_38 {d : Nat} {σ : xS} {st : List Value} {Q : xR → xS → Prop} {l1 : Option Value} {x : Int64} : G d 216 38 [some (.long x), l1] st σ Q ↔ G d 216 39 [some (.long x), l1] (.long x :: st) σ Q := gs_go f_216_38 rfl
theorem f_216_39 : ft 216 39 = some (49, .lload_n 0, []) := rfl
theorem s_216_39 {d : Nat} {σ : xS} {st : List Value} {Q : xR → xS → Prop} {l1 : Option Value} {x : Int64} : G d 216 39 [some (.long x), l1] st σ Q ↔ G d 216 40 [some (.long x), l1] (.long x :: st) σ Q := gs_go f_216_39 rfl
theorem f_216_40 : ft 216 40 = some (50, .bipush 32, []) := rfl
theorem s_216_40 {d : Nat} {σ : xS} {st : List Value} {Q : xR → xS → Prop} {l0 l1 : Option Value} : G d 216 40 [l0, l1] st σ Q ↔ G d 216 41 [l0, l1] (.int (32) :: st) σ Q := gs_go f_216_40 rfl
theorem f_216_41 : ft 216 41 = some (52, .lushr, []) := rfl
theorem s_216_41 {d : Nat} {σ : xS} {st : List Value} {Q : xR → xS → Prop} {l0 l1 : Option Value} {x : Int64} {y : Int32} : G d 216 41 [l0, l1] (.int y :: .long x :: st) σ Q ↔ G d 216 42 [l0, l1] (.long ((x.toUInt64 >>> (y.toInt64.toUInt64 &&& Int64.toUInt64 63)).toInt64) :: st) σ Q := gs_go f_216_41 rfl
theorem f_216_42 : ft 216 42 = some (53, .ladd, []) := rfl
theorem s_216_42 {d : Nat} {σ : xS} {st : List Value} {Q : xR → xS → Prop} {l0 l1 : Option Value} {x y : Int64} : G d 216 42 [l0, l1] (.long y :: .long x :: st) σ Q ↔ G d 216 43 [l0, l1] (.long (x + y) :: st) σ Q := gs_go f_216_42 rfl
theorem f_216_43 : ft 216 43 = some (54, .lstore_n 0, []) := rfl
theorem s_216_43 {d : Nat} {σ : xS} {st : List Value} {Q : xR → xS → Prop} {l0 l1 : Option Value} {x : Int64} : G d 216 43 [l0, l1] (.long x :: st) σ Q ↔ G d 216 44 [some (.long x), none] st σ Q := gs_go f_216_43 rfl
theorem f_216_44 : ft 216 44 = some (55, .lload_n 0, []) := rfl
theorem s_216_44 {d : Nat} {σ : xS} {st : List Value} {Q : xR → xS → Prop} {l1 : Option Value} {x : Int64} : G d 216 44 [some (.long x), l1] st σ Q ↔ G d 216 45 [some (.long x), l1] (.long x :: st) σ Q := gs_go f_216_44 rfl
theorem f_216_45 : ft 216 45 = some (56, .l2i, []) := rfl
theorem s_216_45 {d : Nat} {σ : xS} {st : List Value} {Q : xR → xS → Prop} {l0 l1 : Option Value} {x : Int64} : G d 216 45 [l0, l1] (.long x :: st) σ Q ↔ G d 216 46 [l0, l1] (.int x.toInt32 :: st) σ Q := gs_go f_216_45 rfl
theorem f_216_46 : ft 216 46 = some (57, .bipush 127, []) := rfl
theorem s_216_46 {d : Nat} {σ : xS} {st : List Value} {Q : xR → xS → Prop} {l0 l1 : Option Value} : G d 216 46 [l0, l1] st σ Q ↔ G d 216 47 [l0, l1] (.int (127) :: st) σ Q := gs_go f_216_46 rfl
theorem f_216_47 : ft 216 47 = some (59, .iand, []) := rfl
theorem s_216_47 {d : Nat} {σ : xS} {st : List Value} {Q : xR → xS → Prop} {l0 l1 : Option Value} {x y : Int32} : G d 216 47 [l0, l1] (.int y :: .int x :: st) σ Q ↔ G d 216 48 [l0, l1] (.int (x &&& y) :: st) σ Q := gs_go f_216_47 rfl
theorem f_216_48 : ft 216 48 = some (60, .ireturn, []) := rfl
theorem s_216_48 {d : Nat} {σ : xS} {ls : xL} {Q : xR → xS → Prop} {x : Int32} : G d 216 48 ls [.int x] σ Q ↔ Q (.inl (some (.int x))) σ := gs_reti f_216_48 rfl
theorem f_217_0 : ft 217 0 = some (0, .aload_n 0, []) := rfl
theorem s_217_0 {d : Nat} {σ : xS} {st : List Value} {Q : xR → xS → Prop} {x : Nat} : G d 217 0 [some (.ref x)] st σ Q ↔ G d 217 1 [some (.ref x)] (.ref x :: st) σ Q := gs_go f_217_0 rfl
theorem f_217_1 : ft 217 1 = some (1, .getfield 9, [13, 0, 0, 1557]) := rfl
theorem s_217_1 {d : Nat} {σ : xS} {st : List Value} {Q : xR → xS → Prop} {l0 : Option Value} {a : Nat} : G d 217 1 [l0] (.ref a :: st) σ Q ↔ hgf 13 0 (xRd σ a) (fun v => G d 217 2 [l0] (v :: st) σ Q) := hs_getf (c := 13) (j := 0) f_217_1
theorem f_217_2 : ft 217 2 = some (4, .arraylength, []) := rfl
theorem s_217_2 {d : Nat} {σ : xS} {st : List Value} {Q : xR → xS → Prop} {l0 : Option Value} {a : Nat} : G d 217 2 [l0] (.ref a :: st) σ Q ↔ hln a (xRd σ a) (fun v => G d 217 3 [l0] (.int v :: st) σ Q) := hs_alen f_217_2
theorem f_217_3 : ft 217 3 = some (5, .aload_n 0, []) := rfl
theorem s_217_3 {d : Nat} {σ : xS} {st : List Value} {Q : xR → xS → Prop} {x : Nat} : G d 217 3 [some (.ref x)] st σ Q ↔ G d 217 4 [some (.ref x)] (.ref x :: st) σ Q := gs_go f_217_3 rfl
theorem f_217_4 : ft 217 4 = some (6, .invokevirtual 335, [219, 1, 0, 705]) := rfl
theorem s_217_4 {d : Nat} {σ : xS} {st : List Value} {Q : xR → xS → Prop} {l0 : Option Value} {a0 : Nat} : G (d + 1) 217 4 [l0] (.ref a0 :: st) σ Q ↔ hcl 13 (xRd σ a0) ∧ (xcat st ≤ 8 ∧ Cl d 219 [.ref a0] σ (Gk (d + 1) 217 4 [l0] st Q)) := hs_vcall (na := 1) (kind := 0) (as := [.ref a0]) f_217_4 (by decide) rfl rfl (show (1 : Nat) ≤ 1 by decide) (by decide)
theorem f_217_5 : ft 217 5 = some (9, .ishr, []) := rfl
theorem s_217_5 {d : Nat} {σ : xS} {st : List Value} {Q : xR → xS → Prop} {l0 : Option Value} {x y : Int32} : G d 217 5 [l0] (.int y :: .int x :: st) σ Q ↔ G d 217 6 [l0] (.int (x >>> (y &&& 31)) :: st) σ Q := gs_go f_217_5 rfl
theorem f_217_6 : ft 217 6 = some (10, .ireturn, []) := rfl
theorem s_217_6 {d : Nat} {σ : xS} {ls : xL} {Q : xR → xS → Prop} {x : Int32} : G d 217 6 ls [.int x] σ Q ↔ Q (.inl (some (.int x))) σ := gs_reti f_217_6 rfl
theorem f_218_0 : ft 218 0 = some (0, .aload_n 0, []) := rfl
theorem s_218_0 {d : Nat} {σ : xS} {st : List Value} {Q : xR → xS → Prop} {l1 : Option Value} {x : Nat} : G d 218 0 [some (.ref x), l1] st σ Q ↔ G d 218 1 [some (.ref x), l1] (.ref x :: st) σ Q := gs_go f_218_0 rfl
theorem f_218_1 : ft 218 1 = some (1, .invokevirtual 492, [220, 1, 0, 715]) := rfl
theorem s_218_1 {d : Nat} {σ : xS} {st : List Value} {Q : xR → xS → Prop} {l0 l1 : Option Value} {a0 : Nat} : G (d + 1) 218 1 [l0, l1] (.ref a0 :: st) σ Q ↔ hcl 13 (xRd σ a0) ∧ (xcat st ≤ 8 ∧ Cl d 220 [.ref a0] σ (Gk (d + 1) 218 1 [l0, l1] st Q)) := hs_vcall (na := 1) (kind := 0) (as := [.ref a0]) f_218_1 (by decide) rfl rfl (show (1 : Nat) ≤ 1 by decide) (by decide)
theorem f_218_2 : ft 218 2 = some (4, .ifCond .eq 12, [8]) := rfl
theorem s_218_2 {d : Nat} {σ : xS} {st : List Value} {Q : xR → xS → Prop} {l0 l1 : Option Value} {x : Int32} : G d 218 2 [l0, l1] (.int x :: st) σ Q ↔ if x = 0 then G d 218 8 [l0, l1] st σ Q else G d 218 3 [l0, l1] st σ Q := gs_if f_218_2 rfl
theorem f_218_3 : ft 218 3 = some (7, .aload_n 0, []) := rfl
theorem s_218_3 {d : Nat} {σ : xS} {st : List Value} {Q : xR → xS → Prop} {l1 : Option Value} {x : Nat} : G d 218 3 [some (.ref x), l1] st σ Q ↔ G d 218 4 [some (.ref x), l1] (.ref x :: st) σ Q := gs_go f_218_3 rfl
theorem f_218_4 : ft 218 4 = some (8, .getfield 9, [13, 0, 0, 1557]) := rfl
theorem s_218_4 {d : Nat} {σ : xS} {st : List Value} {Q : xR → xS → Prop} {l0 l1 : Option Value} {a : Nat} : G d 218 4 [l0, l1] (.ref a :: st) σ Q ↔ hgf 13 0 (xRd σ a) (fun v => G d 218 5 [l0, l1] (v :: st) σ Q) := hs_getf (c := 13) (j := 0) f_218_4
theorem f_218_5 : ft 218 5 = some (11, .iload_n 1, []) := rfl
theorem s_218_5 {d : Nat} {σ : xS} {st : List Value} {Q : xR → xS → Prop} {l0 : Option Value} {x : Int32} : G d 218 5 [l0, some (.int x)] st σ Q ↔ G d 218 6 [l0, some (.int x)] (.int x :: st) σ Q := gs_go f_218_5 rfl
theorem f_218_6 : ft 218 6 = some (12, .invokestatic 495, [222, 2, 1, 719]) := rfl
theorem s_218_6 {d : Nat} {σ : xS} {st : List Value} {Q : xR → xS → Prop} {l0 l1 : Option Value} {a0 : Nat} {a1 : Int32} : G (d + 1) 218 6 [l0, l1] (.int a1 :: .ref a0 :: st) σ Q ↔ xcat st ≤ 8 ∧ Cl d 222 [.ref a0, .int a1] σ (Gk (d + 1) 218 6 [l0, l1] st Q) := gs_call f_218_6 ((xinv_call (i := 6) (n := 719) (ls := [l0, l1]) (kind := 1) (σ := σ) (by decide)).trans (xcall_st [.int a1, .ref a0] rfl (by decide) (show (2 : Nat) ≤ 2 by decide)))
theorem f_218_7 : ft 218 7 = some (15, .ireturn, []) := rfl
theorem s_218_7 {d : Nat} {σ : xS} {ls : xL} {Q : xR → xS → Prop} {x : Int32} : G d 218 7 ls [.int x] σ Q ↔ narrow .char (.int x) = .int x ∧ Q (.inl (some (.int x))) σ := hs_iret (ty := .char) f_218_7 rfl
theorem f_218_8 : ft 218 8 = some (16, .aload_n 0, []) := rfl
theorem s_218_8 {d : Nat} {σ : xS} {st : List Value} {Q : xR → xS → Prop} {l1 : Option Value} {x : Nat} : G d 218 8 [some (.ref x), l1] st σ Q ↔ G d 218 9 [some (.ref x), l1] (.ref x :: st) σ Q := gs_go f_218_8 rfl
theorem f_218_9 : ft 218 9 = some (17, .getfield 9, [13, 0, 0, 1557]) := rfl
theorem s_218_9 {d : Nat} {σ : xS} {st : List Value} {Q : xR → xS → Prop} {l0 l1 : Option Value} {a : Nat} : G d 218 9 [l0, l1] (.ref a :: st) σ Q ↔ hgf 13 0 (xRd σ a) (fun v => G d 218 10 [l0, l1] (v :: st) σ Q) := hs_getf (c := 13) (j := 0) f_218_9
theorem f_218_10 : ft 218 10 = some (20, .iload_n 1, []) := rfl
theorem s_218_10 {d : Nat} {σ : xS} {st : List Value} {Q : xR → xS → Prop} {l0 : Option Value} {x : Int32} : G d 218 10 [l0, some (.int x)] st σ Q ↔ G d 218 11 [l0, some (.int x)] (.int x :: st) σ Q := gs_go f_218_10 rfl
theorem f_218_11 : ft 218 11 = some (21, .invokestatic 498, [0, 0, 99, 0]) := rfl
theorem f_218_12 : ft 218 12 = some (24, .ireturn, []) := rfl
theorem s_218_12 {d : Nat} {σ : xS} {ls : xL} {Q : xR → xS → Prop} {x : Int32} : G d 218 12 ls [.int x] σ Q ↔ narrow .char (.int x) = .int x ∧ Q (.inl (some (.int x))) σ := hs_iret (ty := .char) f_218_12 rfl
theorem f_219_0 : ft 219 0 = some (0, .getstatic 38, [1, 0, 709]) := rfl
theorem s_219_0 {d : Nat} {σ : xS} {st : List Value} {Q : xR → xS → Prop} {l0 : Option Value} : G d 219 0 [l0] st σ Q ↔ G d 219 1 [l0] (.int 1 :: st) σ Q := gs_go f_219_0 rfl
theorem f_219_1 : ft 219 1 = some (3, .ifCond .eq 10, [5]) := rfl
theorem s_219_1 {d : Nat} {σ : xS} {st : List Value} {Q : xR → xS → Prop} {l0 : Option Value} {x : Int32} : G d 219 1 [l0] (.int x :: st) σ Q ↔ if x = 0 then G d 219 5 [l0] st σ Q else G d 219 2 [l0] st σ Q := gs_if f_219_1 rfl
theorem f_219_2 : ft 219 2 = some (6, .aload_n 0, []) := rfl
theorem s_219_2 {d : Nat} {σ : xS} {st : List Value} {Q : xR → xS → Prop} {x : Nat} : G d 219 2 [some (.ref x)] st σ Q ↔ G d 219 3 [some (.ref x)] (.ref x :: st) σ Q := gs_go f_219_2 rfl
theorem f_219_3 : ft 219 3 = some (7, .getfield 15, [13, 1, 0, 1558]) := rfl
theorem s_219_3 {d : Nat} {σ : xS} {st : List Value} {Q : xR → xS → Prop} {l0 : Option Value} {a : Nat} : G d 219 3 [l0] (.ref a :: st) σ Q ↔ hgf 13 1 (xRd σ a) (fun v => G d 219 4 [l0] (v :: st) σ Q) := hs_getf (c := 13) (j := 1) f_219_3
theorem f_219_4 : ft 219 4 = some (10, .goto 4, [6]) := rfl
theorem s_219_4 {d : Nat} {σ : xS} {st : List Value} {Q : xR → xS → Prop} {l0 : Option Value} : G d 219 4 [l0] st σ Q ↔ G d 219 6 [l0] st σ Q := gs_go f_219_4 rfl
theorem f_219_5 : ft 219 5 = some (13, .iconst 1, []) := rfl
theorem s_219_5 {d : Nat} {σ : xS} {st : List Value} {Q : xR → xS → Prop} {l0 : Option Value} : G d 219 5 [l0] st σ Q ↔ G d 219 6 [l0] (.int (1) :: st) σ Q := gs_go f_219_5 rfl
theorem f_219_6 : ft 219 6 = some (14, .ireturn, []) := rfl
theorem s_219_6 {d : Nat} {σ : xS} {ls : xL} {Q : xR → xS → Prop} {x : Int32} : G d 219 6 ls [.int x] σ Q ↔ narrow .byte (.int x) = .int x ∧ Q (.inl (some (.int x))) σ := hs_iret (ty := .byte) f_219_6 rfl
theorem f_220_0 : ft 220 0 = some (0, .getstatic 38, [1, 0, 709]) := rfl
theorem s_220_0 {d : Nat} {σ : xS} {st : List Value} {Q : xR → xS → Prop} {l0 : Option Value} : G d 220 0 [l0] st σ Q ↔ G d 220 1 [l0] (.int 1 :: st) σ Q := gs_go f_220_0 rfl
theorem f_220_1 : ft 220 1 = some (3, .ifCond .eq 14, [7]) := rfl
theorem s_220_1 {d : Nat} {σ : xS} {st : List Value} {Q : xR → xS → Prop} {l0 : Option Value} {x : Int32} : G d 220 1 [l0] (.int x :: st) σ Q ↔ if x = 0 then G d 220 7 [l0] st σ Q else G d 220 2 [l0] st σ Q := gs_if f_220_1 rfl
theorem f_220_2 : ft 220 2 = some (6, .aload_n 0, []) := rfl
theorem s_220_2 {d : Nat} {σ : xS} {st : List Value} {Q : xR → xS → Prop} {x : Nat} : G d 220 2 [some (.ref x)] st σ Q ↔ G d 220 3 [some (.ref x)] (.ref x :: st) σ Q := gs_go f_220_2 rfl
theorem f_220_3 : ft 220 3 = some (7, .getfield 15, [13, 1, 0, 1558]) := rfl
theorem s_220_3 {d : Nat} {σ : xS} {st : List Value} {Q : xR → xS → Prop} {l0 : Option Value} {a : Nat} : G d 220 3 [l0] (.ref a :: st) σ Q ↔ hgf 13 1 (xRd σ a) (fun v => G d 220 4 [l0] (v :: st) σ Q) := hs_getf (c := 13) (j := 1) f_220_3
theorem f_220_4 : ft 220 4 = some (10, .ifCond .ne 7, [7]) := rfl
theorem s_220_4 {d : Nat} {σ : xS} {st : List Value} {Q : xR → xS → Prop} {l0 : Option Value} {x : Int32} : G d 220 4 [l0] (.int x :: st) σ Q ↔ if x ≠ 0 then G d 220 7 [l0] st σ Q else G d 220 5 [l0] st σ Q := gs_if f_220_4 rfl
theorem f_220_5 : ft 220 5 = some (13, .iconst 1, []) := rfl
theorem s_220_5 {d : Nat} {σ : xS} {st : List Value} {Q : xR → xS → Prop} {l0 : Option Value} : G d 220 5 [l0] st σ Q ↔ G d 220 6 [l0] (.int (1) :: st) σ Q := gs_go f_220_5 rfl
theorem f_220_6 : ft 220 6 = some (14, .goto 4, [8]) := rfl
theorem s_220_6 {d : Nat} {σ : xS} {st : List Value} {Q : xR → xS → Prop} {l0 : Option Value} : G d 220 6 [l0] st σ Q ↔ G d 220 8 [l0] st σ Q := gs_go f_220_6 rfl
theorem f_220_7 : ft 220 7 = some (17, .iconst 0, []) := rfl
theorem s_220_7 {d : Nat} {σ : xS} {st : List Value} {Q : xR → xS → Prop} {l0 : Option Value} : G d 220 7 [l0] st σ Q ↔ G d 220 8 [l0] (.int (0) :: st) σ Q := gs_go f_220_7 rfl
theorem f_220_8 : ft 220 8 = some (18, .ireturn, []) := rfl
theorem s_220_8 {d : Nat} {σ : xS} {ls : xL} {Q : xR → xS → Prop} {x : Int32} : G d 220 8 ls [.int x] σ Q ↔ ybo x ∧ Q (.inl (some (.int x))) σ := gs_retb f_220_8 rfl
theorem f_221_0 : ft 221 0 = some (0, .iload_n 0, []) := rfl
theorem s_221_0 {d : Nat} {σ : xS} {st : List Value} {Q : xR → xS → Prop} {l1 : Option Value} {x : Int32} : G d 221 0 [some (.int x), l1] st σ Q ↔ G d 221 1 [some (.int x), l1] (.int x :: st) σ Q := gs_go f_221_0 rfl
theorem f_221_1 : ft 221 1 = some (1, .iload_n 1, []) := rfl
theorem s_221_1 {d : Nat} {σ : xS} {st : List Value} {Q : xR → xS → Prop} {l0 : Option Value} {x : Int32} : G d 221 1 [l0, some (.int x)] st σ Q ↔ G d 221 2 [l0, some (.int x)] (.int x :: st) σ Q := gs_go f_221_1 rfl
theorem f_221_2 : ft 221 2 = some (2, .getstatic 1053, [2, 0, 725]) := rfl
theorem s_221_2 {d : Nat} {σ : xS} {st : List Value} {Q : xR → xS → Prop} {l0 l1 : Option Value} : G d 221 2 [l0, l1] st σ Q ↔ G d 221 3 [l0, l1] (.ref 1000002 :: st) σ Q := gs_go f_221_2 rfl
theorem f_221_3 : ft 221 3 = some (5, .invokestatic 1059, [225, 3, 1, 727]) := rfl
theorem s_221_3 {d : Nat} {σ : xS} {st : List Value} {Q : xR → xS → Prop} {l0 l1 : Option Value} {a0 : Int32} {a1 : Int32} {a2 : Nat} : G (d + 1) 221 3 [l0, l1] (.ref a2 :: .int a1 :: .int a0 :: st) σ Q ↔ xcat st ≤ 8 ∧ Cl d 225 [.int a0, .int a1, .ref a2] σ (Gk (d + 1) 221 3 [l0, l1] st Q) := gs_call f_221_3 ((xinv_call (i := 3) (n := 727) (ls := [l0, l1]) (kind := 1) (σ := σ) (by decide)).trans (xcall_st [.ref a2, .int a1, .int a0] rfl (by decide) (show (3 : Nat) ≤ 3 by decide)))
theorem f_221_4 : ft 221 4 = some (8, .pop, []) := rfl
theorem s_221_4 {d : Nat} {σ : xS} {st : List Value} {Q : xR → xS → Prop} {l0 l1 : Option Value} {x : Nat} : G d 221 4 [l0, l1] (.ref x :: st) σ Q ↔ G d 221 5 [l0, l1] st σ Q := gs_go f_221_4 rfl
theorem s_221_4i {d : Nat} {σ : xS} {st : List Value} {Q : xR → xS → Prop} {l0 l1 : Option Value} {x : Int32} : G d 221 4 [l0, l1] (.int x :: st) σ Q ↔ G d 221 5 [l0, l1] st σ Q := gs_go f_221_4 rfl
theorem f_221_5 : ft 221 5 = some (9, .return_, []) := rfl
theorem s_221_5 {d : Nat} {σ : xS} {ls : xL} {Q : xR → xS → Prop} : G d 221 5 ls [] σ Q ↔ Q (.inl none) σ := gs_ret f_221_5 rfl
theorem f_222_0 : ft 222 0 = some (0, .iload_n 1, []) := rfl
theorem s_222_0 {d : Nat} {σ : xS} {st : List Value} {Q : xR → xS → Prop} {l0 : Option Value} {x : Int32} : G d 222 0 [l0, some (.int x)] st σ Q ↔ G d 222 1 [l0, some (.int x)] (.int x :: st) σ Q := gs_go f_222_0 rfl
theorem f_222_1 : ft 222 1 = some (1, .aload_n 0, []) := rfl
theorem s_222_1 {d : Nat} {σ : xS} {st : List Value} {Q : xR → xS → Prop} {l1 : Option Value} {x : Nat} : G d 222 1 [some (.ref x), l1] st σ Q ↔ G d 222 2 [some (.ref x), l1] (.ref x :: st) σ Q := gs_go f_222_1 rfl
theorem f_222_2 : ft 222 2 = some (2, .arraylength, []) := rfl
theorem s_222_2 {d : Nat} {σ : xS} {st : List Value} {Q : xR → xS → Prop} {l0 l1 : Option Value} {a : Nat} : G d 222 2 [l0, l1] (.ref a :: st) σ Q ↔ hln a (xRd σ a) (fun v => G d 222 3 [l0, l1] (.int v :: st) σ Q) := hs_alen f_222_2
theorem f_222_3 : ft 222 3 = some (3, .invokestatic 9, [221, 2, 1, 722]) := rfl
theorem s_222_3 {d : Nat} {σ : xS} {st : List Value} {Q : xR → xS → Prop} {l0 l1 : Option Value} {a0 : Int32} {a1 : Int32} : G (d + 1) 222 3 [l0, l1] (.int a1 :: .int a0 :: st) σ Q ↔ xcat st ≤ 8 ∧ Cl d 221 [.int a0, .int a1] σ (Gk (d + 1) 222 3 [l0, l1] st Q) := gs_call f_222_3 ((xinv_call (i := 3) (n := 722) (ls := [l0, l1]) (kind := 1) (σ := σ) (by decide)).trans (xcall_st [.int a1, .int a0] rfl (by decide) (show (2 : Nat) ≤ 2 by decide)))
theorem f_222_4 : ft 222 4 = some (6, .aload_n 0, []) := rfl
theorem s_222_4 {d : Nat} {σ : xS} {st : List Value} {Q : xR → xS → Prop} {l1 : Option Value} {x : Nat} : G d 222 4 [some (.ref x), l1] st σ Q ↔ G d 222 5 [some (.ref x), l1] (.ref x :: st) σ Q := gs_go f_222_4 rfl
theorem f_222_5 : ft 222 5 = some (7, .iload_n 1, []) := rfl
theorem s_222_5 {d : Nat} {σ : xS} {st : List Value} {Q : xR → xS → Prop} {l0 : Option Value} {x : Int32} : G d 222 5 [l0, some (.int x)] st σ Q ↔ G d 222 6 [l0, some (.int x)] (.int x :: st) σ Q := gs_go f_222_5 rfl
theorem f_222_6 : ft 222 6 = some (8, .baload, []) := rfl
theorem s_222_6 {d : Nat} {σ : xS} {st : List Value} {Q : xR → xS → Prop} {l0 l1 : Option Value} {a : Nat} {x : Int32} : G d 222 6 [l0, l1] (.int x :: .ref a :: st) σ Q ↔ hai 1 x (xRd σ a) (fun v => G d 222 7 [l0, l1] (.int v :: st) σ Q) := hs_bald f_222_6
theorem f_222_7 : ft 222 7 = some (9, .sipush 255, []) := rfl
theorem s_222_7 {d : Nat} {σ : xS} {st : List Value} {Q : xR → xS → Prop} {l0 l1 : Option Value} : G d 222 7 [l0, l1] st σ Q ↔ G d 222 8 [l0, l1] (.int (255) :: st) σ Q := gs_go f_222_7 rfl
theorem f_222_8 : ft 222 8 = some (12, .iand, []) := rfl
theorem s_222_8 {d : Nat} {σ : xS} {st : List Value} {Q : xR → xS → Prop} {l0 l1 : Option Value} {x y : Int32} : G d 222 8 [l0, l1] (.int y :: .int x :: st) σ Q ↔ G d 222 9 [l0, l1] (.int (x &&& y) :: st) σ Q := gs_go f_222_8 rfl
theorem f_222_9 : ft 222 9 = some (13, .i2c, []) := rfl
theorem s_222_9 {d : Nat} {σ : xS} {st : List Value} {Q : xR → xS → Prop} {l0 l1 : Option Value} {x : Int32} : G d 222 9 [l0, l1] (.int x :: st) σ Q ↔ G d 222 10 [l0, l1] (.int (x.toUInt32 % 65536).toInt32 :: st) σ Q := gs_go f_222_9 rfl
theorem f_222_10 : ft 222 10 = some (14, .ireturn, []) := rfl
theorem s_222_10 {d : Nat} {σ : xS} {ls : xL} {Q : xR → xS → Prop} {x : Int32} : G d 222 10 ls [.int x] σ Q ↔ narrow .char (.int x) = .int x ∧ Q (.inl (some (.int x))) σ := hs_iret (ty := .char) f_222_10 rfl
theorem f_223_0 : ft 223 0 = some (0, .iconst 0, []) := rfl
theorem s_223_0 {d : Nat} {σ : xS} {st : List Value} {Q : xR → xS → Prop} {l0 l1 l2 l3 : Option Value} : G d 223 0 [l0, l1, l2, l3] st σ Q ↔ G d 223 1 [l0, l1, l2, l3] (.int (0) :: st) σ Q := gs_go f_223_0 rfl
theorem f_223_1 : ft 223 1 = some (1, .istore_n 2, []) := rfl
theorem s_223_1 {d : Nat} {σ : xS} {st : List Value} {Q : xR → xS → Prop} {l0 l1 l2 l3 : Option Value} {x : Int32} : G d 223 1 [l0, l1, l2, l3] (.int x :: st) σ Q ↔ G d 223 2 [l0, ykl l1, some (.int x), l3] st σ Q := by
  cases l1 with
  | none => exact gs_go f_223_1 rfl
  | some v => cases v <;> exact gs_go f_223_1 rfl
theorem f_223_2 : ft 223 2 = some (2, .aload_n 0, []) := rfl
theorem s_223_2 {d : Nat} {σ : xS} {st : List Value} {Q : xR → xS → Prop} {l1 l2 l3 : Option Value} {x : Nat} : G d 223 2 [some (.ref x), l1, l2, l3] st σ Q ↔ G d 223 3 [some (.ref x), l1, l2, l3] (.ref x :: st) σ Q := gs_go f_223_2 rfl
theorem f_223_3 : ft 223 3 = some (3, .arraylength, []) := rfl
theorem f_223_4 : ft 223 4 = some (4, .istore_n 3, []) := rfl
theorem s_223_4 {d : Nat} {σ : xS} {st : List Value} {Q : xR → xS → Prop} {l0 l1 l2 l3 : Option Value} {x : Int32} : G d 223 4 [l0, l1, l2, l3] (.int x :: st) σ Q ↔ G d 223 5 [l0, l1, ykl l2, some (.int x)] st σ Q := by
  cases l2 with
  | none => exact gs_go f_223_4 rfl
  | some v => cases v <;> exact gs_go f_223_4 rfl
theorem f_223_5 : ft 223 5 = some (5, .iload_n 2, []) := rfl
theorem s_223_5 {d : Nat} {σ : xS} {st : List Value} {Q : xR → xS → Prop} {l0 l1 l3 : Option Value} {x : Int32} : G d 223 5 [l0, l1, some (.int x), l3] st σ Q ↔ G d 223 6 [l0, l1, some (.int x), l3] (.int x :: st) σ Q := gs_go f_223_5 rfl
theorem f_223_6 : ft 223 6 = some (6, .iload_n 3, []) := rfl
theorem s_223_6 {d : Nat} {σ : xS} {st : List Value} {Q : xR → xS → Prop} {l0 l1 l2 : Option Value} {x : Int32} : G d 223 6 [l0, l1, l2, some (.int x)] st σ Q ↔ G d 223 7 [l0, l1, l2, some (.int x)] (.int x :: st) σ Q := gs_go f_223_6 rfl
theorem f_223_7 : ft 223 7 = some (7, .if_icmp .ge 13, [14]) := rfl
theorem s_223_7 {d : Nat} {σ : xS} {st : List Value} {Q : xR → xS → Prop} {l0 l1 l2 l3 : Option Value} {x y : Int32} : G d 223 7 [l0, l1, l2, l3] (.int y :: .int x :: st) σ Q ↔ if y ≤ x then G d 223 14 [l0, l1, l2, l3] st σ Q else G d 223 8 [l0, l1, l2, l3] st σ Q := gs_if f_223_7 rfl
theorem f_223_8 : ft 223 8 = some (10, .aload_n 0, []) := rfl
theorem s_223_8 {d : Nat} {σ : xS} {st : List Value} {Q : xR → xS → Prop} {l1 l2 l3 : Option Value} {x : Nat} : G d 223 8 [some (.ref x), l1, l2, l3] st σ Q ↔ G d 223 9 [some (.ref x), l1, l2, l3] (.ref x :: st) σ Q := gs_go f_223_8 rfl
theorem f_223_9 : ft 223 9 = some (11, .iload_n 2, []) := rfl
theorem s_223_9 {d : Nat} {σ : xS} {st : List Value} {Q : xR → xS → Prop} {l0 l1 l3 : Option Value} {x : Int32} : G d 223 9 [l0, l1, some (.int x), l3] st σ Q ↔ G d 223 10 [l0, l1, some (.int x), l3] (.int x :: st) σ Q := gs_go f_223_9 rfl
theorem f_223_10 : ft 223 10 = some (12, .iload_n 1, []) := rfl
theorem s_223_10 {d : Nat} {σ : xS} {st : List Value} {Q : xR → xS → Prop} {l0 l2 l3 : Option Value} {x : Int32} : G d 223 10 [l0, some (.int x), l2, l3] st σ Q ↔ G d 223 11 [l0, some (.int x), l2, l3] (.int x :: st) σ Q := gs_go f_223_10 rfl
theorem f_223_11 : ft 223 11 = some (13, .iastore, []) := rfl
theorem s_223_11 {d : Nat} {t : yT} {st : List Value} {Q : xR → xS → Prop} {l0 l1 l2 l3 : Option Value} {a : Nat} {x v : Int32} (ha : yA 0 a) : G d 223 11 [l0, l1, l2, l3] (.int v :: .int x :: .ref a :: st) (yemb t) Q ↔ yix x (yn a) ∧ G d 223 12 [l0, l1, l2, l3] st (yemb (t.s1 a x.toNatClampNeg v)) Q := gs_iast f_223_11 ha
theorem f_223_12 : ft 223 12 = some (14, .iinc 2 1, []) := rfl
theorem s_223_12 {d : Nat} {σ : xS} {st : List Value} {Q : xR → xS → Prop} {l0 l1 l3 : Option Value} {x : Int32} : G d 223 12 [l0, l1, some (.int x), l3] st σ Q ↔ G d 223 13 [l0, ykl l1, some (.int (x + 1)), l3] st σ Q := by
  cases l1 with
  | none => exact gs_go f_223_12 rfl
  | some v => cases v <;> exact gs_go f_223_12 rfl
theorem f_223_13 : ft 223 13 = some (17, .goto (-12), [5]) := rfl
theorem s_223_13 {d : Nat} {σ : xS} {st : List Value} {Q : xR → xS → Prop} {l0 l1 l2 l3 : Option Value} : G d 223 13 [l0, l1, l2, l3] st σ Q ↔ G d 223 5 [l0, l1, l2, l3] st σ Q := gs_go f_223_13 rfl
theorem f_223_14 : ft 223 14 = some (20, .return_, []) := rfl
theorem s_223_14 {d : Nat} {σ : xS} {ls : xL} {Q : xR → xS → Prop} : G d 223 14 ls [] σ Q ↔ Q (.inl none) σ := gs_ret f_223_14 rfl
theorem f_224_0 : ft 224 0 = some (0, .iload_n 1, []) := rfl
theorem s_224_0 {d : Nat} {σ : xS} {st : List Value} {Q : xR → xS → Prop} {l0 l2 : Option Value} {x : Int32} : G d 224 0 [l0, some (.int x), l2] st σ Q ↔ G d 224 1 [l0, some (.int x), l2] (.int x :: st) σ Q := gs_go f_224_0 rfl
theorem f_224_1 : ft 224 1 = some (1, .aload_n 0, []) := rfl
theorem s_224_1 {d : Nat} {σ : xS} {st : List Value} {Q : xR → xS → Prop} {l1 l2 : Option Value} {x : Nat} : G d 224 1 [some (.ref x), l1, l2] st σ Q ↔ G d 224 2 [some (.ref x), l1, l2] (.ref x :: st) σ Q := gs_go f_224_1 rfl
theorem f_224_2 : ft 224 2 = some (2, .arraylength, []) := rfl
theorem f_224_3 : ft 224 3 = some (3, .if_icmp .ne 11, [8]) := rfl
theorem s_224_3 {d : Nat} {σ : xS} {st : List Value} {Q : xR → xS → Prop} {l0 l1 l2 : Option Value} {x y : Int32} : G d 224 3 [l0, l1, l2] (.int y :: .int x :: st) σ Q ↔ if x ≠ y then G d 224 8 [l0, l1, l2] st σ Q else G d 224 4 [l0, l1, l2] st σ Q := gs_if f_224_3 rfl
theorem f_224_4 : ft 224 4 = some (6, .aload_n 0, []) := rfl
theorem s_224_4 {d : Nat} {σ : xS} {st : List Value} {Q : xR → xS → Prop} {l1 l2 : Option Value} {x : Nat} : G d 224 4 [some (.ref x), l1, l2] st σ Q ↔ G d 224 5 [some (.ref x), l1, l2] (.ref x :: st) σ Q := gs_go f_224_4 rfl
theorem f_224_5 : ft 224 5 = some (7, .invokevirtual 316, [0, 1, 22, 870]) := rfl
theorem f_224_6 : ft 224 6 = some (10, .checkcast 317, [0, 871]) := rfl
theorem f_224_7 : ft 224 7 = some (13, .areturn, []) := rfl
theorem s_224_7 {d : Nat} {σ : xS} {ls : xL} {Q : xR → xS → Prop} {x : Nat} : G d 224 7 ls [.ref x] σ Q ↔ Q (.inl (some (.ref x))) σ := gs_ret f_224_7 rfl
theorem f_224_8 : ft 224 8 = some (14, .iload_n 1, []) := rfl
theorem s_224_8 {d : Nat} {σ : xS} {st : List Value} {Q : xR → xS → Prop} {l0 l2 : Option Value} {x : Int32} : G d 224 8 [l0, some (.int x), l2] st σ Q ↔ G d 224 9 [l0, some (.int x), l2] (.int x :: st) σ Q := gs_go f_224_8 rfl
theorem f_224_9 : ft 224 9 = some (15, .newarray .int, [0]) := rfl
theorem f_224_10 : ft 224 10 = some (17, .astore_n 2, []) := rfl
theorem s_224_10 {d : Nat} {σ : xS} {st : List Value} {Q : xR → xS → Prop} {l0 l1 l2 : Option Value} {x : Nat} (h : x < 1000000) : G d 224 10 [l0, l1, l2] (.ref x :: st) σ Q ↔ G d 224 11 [l0, ykl l1, some (.ref x)] st σ Q := by
  cases l1 with
  | none => exact gs_go f_224_10 (if_pos ⟨(show (2 : Nat) < 3 by decide), h⟩)
  | some v => cases v <;> exact gs_go f_224_10 (if_pos ⟨(show (2 : Nat) < 3 by decide), h⟩)
theorem f_224_11 : ft 224 11 = some (18, .aload_n 0, []) := rfl
theorem s_224_11 {d : Nat} {σ : xS} {st : List Value} {Q : xR → xS → Prop} {l1 l2 : Option Value} {x : Nat} : G d 224 11 [some (.ref x), l1, l2] st σ Q ↔ G d 224 12 [some (.ref x), l1, l2] (.ref x :: st) σ Q := gs_go f_224_11 rfl
theorem f_224_12 : ft 224 12 = some (19, .iconst 0, []) := rfl
theorem s_224_12 {d : Nat} {σ : xS} {st : List Value} {Q : xR → xS → Prop} {l0 l1 l2 : Option Value} : G d 224 12 [l0, l1, l2] st σ Q ↔ G d 224 13 [l0, l1, l2] (.int (0) :: st) σ Q := gs_go f_224_12 rfl
theorem f_224_13 : ft 224 13 = some (20, .aload_n 2, []) := rfl
theorem s_224_13 {d : Nat} {σ : xS} {st : List Value} {Q : xR → xS → Prop} {l0 l1 : Option Value} {x : Nat} : G d 224 13 [l0, l1, some (.ref x)] st σ Q ↔ G d 224 14 [l0, l1, some (.ref x)] (.ref x :: st) σ Q := gs_go f_224_13 rfl
theorem f_224_14 : ft 224 14 = some (21, .iconst 0, []) := rfl
theorem s_224_14 {d : Nat} {σ : xS} {st : List Value} {Q : xR → xS → Prop} {l0 l1 l2 : Option Value} : G d 224 14 [l0, l1, l2] st σ Q ↔ G d 224 15 [l0, l1, l2] (.int (0) :: st) σ Q := gs_go f_224_14 rfl
theorem f_224_15 : ft 224 15 = some (22, .aload_n 0, []) := rfl
theorem s_224_15 {d : Nat} {σ : xS} {st : List Value} {Q : xR → xS → Prop} {l1 l2 : Option Value} {x : Nat} : G d 224 15 [some (.ref x), l1, l2] st σ Q ↔ G d 224 16 [some (.ref x), l1, l2] (.ref x :: st) σ Q := gs_go f_224_15 rfl
theorem f_224_16 : ft 224 16 = some (23, .arraylength, []) := rfl
theorem f_224_17 : ft 224 17 = some (24, .iload_n 1, []) := rfl
theorem s_224_17 {d : Nat} {σ : xS} {st : List Value} {Q : xR → xS → Prop} {l0 l2 : Option Value} {x : Int32} : G d 224 17 [l0, some (.int x), l2] st σ Q ↔ G d 224 18 [l0, some (.int x), l2] (.int x :: st) σ Q := gs_go f_224_17 rfl
theorem f_224_18 : ft 224 18 = some (25, .invokestatic 304, [0, 2, 25, 872]) := rfl
theorem s_224_18 {d : Nat} {σ : xS} {st : List Value} {Q : xR → xS → Prop} {l0 l1 l2 : Option Value} {x y : Int32} (h : xcat st ≤ 8) : G d 224 18 [l0, l1, l2] (.int y :: .int x :: st) σ Q ↔ G d 224 19 [l0, l1, l2] (.int (if y < x then y else x) :: st) σ Q := gs_go f_224_18 (if_pos h)
theorem f_224_19 : ft 224 19 = some (28, .invokestatic 150, [0, 5, 21, 873]) := rfl
theorem f_224_20 : ft 224 20 = some (31, .aload_n 2, []) := rfl
theorem s_224_20 {d : Nat} {σ : xS} {st : List Value} {Q : xR → xS → Prop} {l0 l1 : Option Value} {x : Nat} : G d 224 20 [l0, l1, some (.ref x)] st σ Q ↔ G d 224 21 [l0, l1, some (.ref x)] (.ref x :: st) σ Q := gs_go f_224_20 rfl
theorem f_224_21 : ft 224 21 = some (32, .areturn, []) := rfl
theorem s_224_21 {d : Nat} {σ : xS} {ls : xL} {Q : xR → xS → Prop} {x : Nat} : G d 224 21 ls [.ref x] σ Q ↔ Q (.inl (some (.ref x))) σ := gs_ret f_224_21 rfl
theorem f_225_0 : ft 225 0 = some (0, .iload_n 0, []) := rfl
theorem s_225_0 {d : Nat} {σ : xS} {st : List Value} {Q : xR → xS → Prop} {l1 l2 : Option Value} {x : Int32} : G d 225 0 [some (.int x), l1, l2] st σ Q ↔ G d 225 1 [some (.int x), l1, l2] (.int x :: st) σ Q := gs_go f_225_0 rfl
theorem f_225_1 : ft 225 1 = some (1, .ifCond .lt 8, [5]) := rfl
theorem s_225_1 {d : Nat} {σ : xS} {st : List Value} {Q : xR → xS → Prop} {l0 l1 l2 : Option Value} {x : Int32} : G d 225 1 [l0, l1, l2] (.int x :: st) σ Q ↔ if x < 0 then G d 225 5 [l0, l1, l2] st σ Q else G d 225 2 [l0, l1, l2] st σ Q := gs_if f_225_1 rfl
theorem f_225_2 : ft 225 2 = some (4, .iload_n 0, []) := rfl
theorem s_225_2 {d : Nat} {σ : xS} {st : List Value} {Q : xR → xS → Prop} {l1 l2 : Option Value} {x : Int32} : G d 225 2 [some (.int x), l1, l2] st σ Q ↔ G d 225 3 [some (.int x), l1, l2] (.int x :: st) σ Q := gs_go f_225_2 rfl
theorem f_225_3 : ft 225 3 = some (5, .iload_n 1, []) := rfl
theorem s_225_3 {d : Nat} {σ : xS} {st : List Value} {Q : xR → xS → Prop} {l0 l2 : Option Value} {x : Int32} : G d 225 3 [l0, some (.int x), l2] st σ Q ↔ G d 225 4 [l0, some (.int x), l2] (.int x :: st) σ Q := gs_go f_225_3 rfl
theorem f_225_4 : ft 225 4 = some (6, .if_icmp .lt 10, [10]) := rfl
theorem s_225_4 {d : Nat} {σ : xS} {st : List Value} {Q : xR → xS → Prop} {l0 l1 l2 : Option Value} {x y : Int32} : G d 225 4 [l0, l1, l2] (.int y :: .int x :: st) σ Q ↔ if x < y then G d 225 10 [l0, l1, l2] st σ Q else G d 225 5 [l0, l1, l2] st σ Q := gs_if f_225_4 rfl
theorem f_225_5 : ft 225 5 = some (9, .aload_n 2, []) := rfl
theorem s_225_5 {d : Nat} {σ : xS} {st : List Value} {Q : xR → xS → Prop} {l0 l1 : Option Value} {x : Nat} : G d 225 5 [l0, l1, some (.ref x)] st σ Q ↔ G d 225 6 [l0, l1, some (.ref x)] (.ref x :: st) σ Q := gs_go f_225_5 rfl
theorem f_225_6 : ft 225 6 = some (10, .iload_n 0, []) := rfl
theorem s_225_6 {d : Nat} {σ : xS} {st : List Value} {Q : xR → xS → Prop} {l1 l2 : Option Value} {x : Int32} : G d 225 6 [some (.int x), l1, l2] st σ Q ↔ G d 225 7 [some (.int x), l1, l2] (.int x :: st) σ Q := gs_go f_225_6 rfl
theorem f_225_7 : ft 225 7 = some (11, .iload_n 1, []) := rfl
theorem s_225_7 {d : Nat} {σ : xS} {st : List Value} {Q : xR → xS → Prop} {l0 l2 : Option Value} {x : Int32} : G d 225 7 [l0, some (.int x), l2] st σ Q ↔ G d 225 8 [l0, some (.int x), l2] (.int x :: st) σ Q := gs_go f_225_7 rfl
theorem f_225_8 : ft 225 8 = some (12, .invokestatic 95, [0, 0, 99, 0]) := rfl
theorem f_225_9 : ft 225 9 = some (15, .athrow, []) := rfl
theorem f_225_10 : ft 225 10 = some (16, .iload_n 0, []) := rfl
theorem s_225_10 {d : Nat} {σ : xS} {st : List Value} {Q : xR → xS → Prop} {l1 l2 : Option Value} {x : Int32} : G d 225 10 [some (.int x), l1, l2] st σ Q ↔ G d 225 11 [some (.int x), l1, l2] (.int x :: st) σ Q := gs_go f_225_10 rfl
theorem f_225_11 : ft 225 11 = some (17, .ireturn, []) := rfl
theorem s_225_11 {d : Nat} {σ : xS} {ls : xL} {Q : xR → xS → Prop} {x : Int32} : G d 225 11 ls [.int x] σ Q ↔ Q (.inl (some (.int x))) σ := gs_reti f_225_11 rfl

/-! ===== the table's own check: each row decodes, each link stands among the tables' words ===== -/
def xowf (k : Nat) : String := (xow[k]?).getD ""
def xynf (k : Nat) : MethodName := (xyn[k]?).getD ⟨"", "", ""⟩
def xbyf (k : Nat) : ByteArray := (xby[k]?).getD ByteArray.empty
def xTf (c j : Nat) : String × String × String × Bool := match c with
  | 0 => TX0 j
  | 1 => TX1 j
  | 2 => TX2 j
  | 3 => TX3 j
  | 4 => TX4 j
  | 5 => TX5 j
  | 6 => TX6 j
  | 7 => TX7 j
  | _ => TX8 j
def xRXf (c : Nat) : String := match c with
  | 0 => RX0
  | 1 => RX1
  | 2 => RX2
  | 3 => RX3
  | 4 => RX4
  | 5 => RX5
  | 6 => RX6
  | 7 => RX7
  | _ => RX8
def xEX (e : Nat) : String := match e with
  | 0 => "java/lang/IllegalArgumentException"
  | 1 => "java/lang/IndexOutOfBoundsException"
  | 2 => "java/lang/IllegalStateException"
  | _ => "java/util/NoSuchElementException"
def xIC (e : Nat) : Nat := match e with
  | 0 => 88
  | 1 => 172
  | 2 => 282
  | _ => 289
def xsr : List (String × Nat × Nat) := [("LampStrip$Script", 79, 6), ("LampStrip$Script", 85, 9), ("LampStrip$Script", 87, 7), ("LampStrip$Script", 89, 10), ("LampStrip$Script", 91, 2), ("LampStrip$Script", 93, 8), ("LampStrip$Setup", 64, 11), ("LampStrip$Setup", 80, 5), ("LampStrip$Setup", 88, 0), ("LampStrip$Setup", 92, 6), ("LampStrip$Setup", 97, 7), ("LampStrip$Setup", 102, 3), ("LampStrip$Setup", 146, 4), ("LampStrip$Setup", 148, 1), ("LampStrip$Setup", 154, 12), ("LampStrip$Sum", 59, 13), ("LampStrip$Sum", 65, 7), ("LampStripModel", 130, 13), ("LampStripModel", 136, 7), ("LampStripModel", 167, 4), ("LampStripModel", 169, 1), ("LampStripModel", 171, 12), ("LampStripModel", 178, 5), ("LampStripModel", 183, 0), ("LampStripModel", 187, 6), ("LampStripModel", 195, 3), ("LampStripModel", 207, 11), ("LampStripModel", 219, 9), ("LampStripModel", 221, 10), ("LampStripModel", 223, 2), ("LampStripModel", 225, 8)]
/-- places of a method's own words: code, initialized, instance or static, selects (0: none) -/
def xmp : List (Nat × Nat × Nat × Nat) := [(159, 87, 158, 0), (430, 87, 428, 429), (450, 87, 448, 449), (454, 87, 453, 1), (457, 87, 456, 0), (348, 93, 347, 0), (888, 93, 886, 887), (505, 93, 503, 504), (314, 92, 313, 0), (937, 92, 935, 936), (1006, 92, 1004, 1005), (1002, 92, 1000, 1001), (901, 92, 899, 900), (905, 92, 904, 18), (911, 92, 910, 19), (915, 92, 914, 20), (928, 92, 927, 21), (941, 92, 940, 22), (945, 92, 944, 23), (949, 92, 948, 24), (270, 90, 269, 0), (679, 90, 677, 678), (687, 90, 686, 5), (773, 90, 772, 7), (779, 90, 778, 8), (794, 90, 793, 9), (800, 90, 799, 10), (812, 90, 811, 11), (821, 90, 820, 12), (179, 88, 178, 0), (184, 88, 182, 183), (509, 88, 507, 508), (616, 88, 614, 615), (648, 88, 646, 647), (535, 88, 533, 534), (995, 88, 993, 994), (806, 88, 804, 805), (543, 88, 541, 542), (953, 88, 951, 952), (816, 88, 814, 815), (965, 88, 963, 964), (789, 88, 787, 788), (640, 88, 638, 639), (439, 88, 437, 438), (491, 88, 489, 490), (483, 88, 481, 482), (443, 88, 442, 0), (475, 88, 474, 2), (636, 88, 634, 635), (494, 88, 493, 0), (487, 88, 485, 486), (435, 88, 433, 434), (969, 88, 967, 968), (973, 88, 971, 972), (978, 88, 976, 977), (982, 88, 980, 981), (986, 88, 985, 25), (990, 88, 989, 26), (539, 88, 538, 3), (531, 88, 529, 530), (1069, 88, 1068, 28), (1062, 88, 1060, 1061), (1030, 88, 1028, 1029), (1034, 88, 1033, 27), (446, 88, 445, 0), (276, 91, 275, 0), (683, 91, 681, 682), (855, 91, 853, 854), (826, 91, 825, 13), (847, 91, 846, 16), (830, 91, 829, 14), (851, 91, 850, 17), (842, 91, 841, 15), (121, 86, 120, 0), (410, 86, 408, 409), (884, 86, 882, 883), (880, 86, 878, 879), (414, 86, 412, 413), (876, 86, 874, 875), (662, 86, 660, 661), (668, 86, 666, 667), (671, 86, 670, 0), (675, 86, 674, 0), (769, 86, 767, 768), (765, 86, 763, 764), (696, 86, 694, 695), (871, 86, 869, 870), (761, 86, 759, 760), (692, 86, 690, 691), (756, 86, 754, 755), (748, 86, 746, 747), (785, 86, 783, 784), (752, 86, 751, 6), (113, 85, 112, 0), (406, 85, 404, 405), (658, 85, 656, 657), (897, 85, 895, 896), (418, 85, 416, 417), (422, 85, 420, 421), (521, 85, 519, 520), (612, 85, 610, 611), (644, 85, 642, 643), (1026, 85, 1024, 1025), (1041, 85, 1039, 1040), (1049, 85, 1047, 1048), (1058, 85, 1056, 1057), (426, 85, 424, 425), (479, 85, 477, 478), (1076, 85, 1074, 1075), (1086, 85, 1084, 1085), (1094, 85, 1092, 1093), (1102, 85, 1100, 1101), (1110, 85, 1108, 1109), (1119, 85, 1117, 1118), (1145, 85, 1143, 1144), (1152, 85, 1150, 1151), (1160, 85, 1158, 1159), (501, 85, 499, 500), (516, 85, 514, 515), (957, 85, 956, 0), (1122, 85, 1121, 0), (497, 85, 496, 0), (1180, 94, 1179, 0), (1280, 94, 1278, 1279), (1295, 94, 1294, 29), (1291, 94, 1290, 0), (1333, 94, 1332, 0), (1400, 94, 1399, 0), (1186, 94, 1185, 0), (1284, 94, 1282, 1283), (1316, 94, 1315, 34), (1312, 94, 1311, 33), (1308, 94, 1307, 32), (1322, 94, 1321, 35), (1329, 94, 1328, 0), (1304, 94, 1303, 31), (1337, 94, 1336, 37), (1326, 94, 1325, 36), (1393, 94, 1392, 47), (1388, 94, 1387, 46), (1384, 94, 1383, 45), (1380, 94, 1379, 44), (1375, 94, 1374, 43), (1346, 94, 1345, 39), (1358, 94, 1357, 41), (1354, 94, 1353, 40), (1369, 94, 1368, 0), (1366, 94, 1365, 42), (1341, 94, 1340, 38), (1299, 94, 1298, 30), (1288, 94, 1286, 1287), (1404, 94, 1402, 1403), (1416, 94, 1415, 50), (1412, 94, 1411, 49), (1424, 94, 1423, 51), (1408, 94, 1406, 1407), (1428, 94, 1427, 52), (1432, 94, 1431, 53), (1442, 94, 1441, 54), (1523, 94, 1521, 1522), (1189, 94, 1188, 0), (1349, 94, 1348, 0), (1450, 94, 1449, 56), (1454, 94, 1453, 57), (1499, 94, 1498, 66), (1507, 94, 1506, 68), (1503, 94, 1502, 67), (1519, 94, 1518, 71), (1515, 94, 1514, 70), (1511, 94, 1510, 69), (1495, 94, 1494, 65), (1491, 94, 1490, 64), (1547, 94, 1546, 76), (1543, 94, 1542, 75), (1480, 94, 1479, 0), (1477, 94, 1476, 0), (1474, 94, 1473, 62), (1470, 94, 1469, 61), (1487, 94, 1486, 63), (1466, 94, 1465, 60), (1462, 94, 1461, 59), (1446, 94, 1445, 55), (1458, 94, 1457, 58), (1438, 94, 1437, 0), (1435, 94, 1434, 0), (1555, 94, 1554, 77), (1567, 94, 1566, 79), (1539, 94, 1538, 74), (1535, 94, 1534, 73), (1531, 94, 1530, 72), (1527, 94, 1525, 1526), (1559, 94, 1558, 78), (1551, 94, 1549, 1550), (1571, 94, 1570, 80), (1563, 94, 1561, 1562), (1579, 94, 1578, 81), (1575, 94, 1573, 1574), (1583, 94, 1581, 1582), (1587, 94, 1585, 1586), (1591, 94, 1589, 1590), (1599, 94, 1598, 82), (1595, 94, 1593, 1594), (1603, 94, 1601, 1602), (1397, 94, 1396, 48), (1607, 94, 1605, 1606), (1611, 94, 1609, 1610), (1615, 94, 1613, 1614), (1619, 94, 1617, 1618), (1623, 94, 1621, 1622), (1627, 94, 1625, 1626), (1631, 94, 1629, 1630), (1639, 94, 1638, 83), (1635, 94, 1633, 1634), (1643, 94, 1641, 1642), (1647, 94, 1645, 1646), (1651, 94, 1649, 1650), (524, 104, 523, 0), (700, 100, 698, 699), (710, 100, 708, 709), (704, 100, 702, 703), (714, 100, 712, 713), (720, 100, 719, 0), (717, 101, 716, 0), (187, 89, 186, 0), (858, 89, 857, 0), (725, 102, 724, 0), (653, 84, 652, 0), (893, 84, 892, 0), (1009, 84, 1008, 0), (1013, 84, 1012, 0), (1018, 84, 1017, 0), (1022, 84, 1021, 0), (1037, 84, 1036, 0), (1045, 84, 1044, 0), (1054, 84, 1053, 0), (1072, 84, 1071, 0), (1082, 84, 1081, 0), (1090, 84, 1089, 0), (1098, 84, 1097, 0), (1106, 84, 1105, 0), (1114, 84, 1113, 0), (1141, 84, 1140, 0), (1148, 84, 1147, 0), (1155, 84, 1154, 0), (0, 84, 0, 0)]
def xmpf (k : Nat) : Nat × Nat × Nat × Nat := (xmp[k]?).getD (0, 0, 0, 0)
def xwd (j : Nat) (w : Cond) : Bool := decide (lw_tbl[j]? = some w) && goodWord w
def xwn (j : Nat) (w : Cond) : Bool := decide (lw_tbl[j]? = some w)
def xcloneN : MethodName := ⟨"[I", "clone", "()Ljava/lang/Object;"⟩
def xlen : Instr → Nat
  | .iconst _ | .lconst _ | .dconst _ | .iload_n _ | .lload_n _ | .dload_n _ | .aload_n _ | .istore_n _ | .lstore_n _ | .dstore_n _ | .astore_n _ => 1
  | .bipush _ | .ldc _ | .iload _ | .lload _ | .dload _ | .aload _ | .istore _ | .lstore _ | .dstore _ | .astore _ | .newarray _ => 2
  | .sipush _ | .ldc2_w _ | .getstatic _ | .iinc _ _ | .goto _ | .ifCond _ _ | .if_icmp _ _ | .getfield _ | .putfield _ | .new _ | .anewarray _ | .checkcast _ | .invokevirtual _ | .invokespecial _ | .invokestatic _ => 3
  | .multianewarray _ _ => 4
  | _ => 1
def xdec (k pc : Nat) (ins : Instr) (n : Nat) : Bool := match decode (xbyf k) pc with
  | .ok (j, m) => decide (j = ins) && decide (m = n)
  | _ => false
/-- the kinds of calls: 0 virtual, 1 static, 2 a constructor; 3, 4, 5 the same of a nest mate; 6 static with a table of its own -/
def xkd (k' kind : Nat) : Bool := decide (k' < 244) && match kind with
  | 0 | 3 => xwd (xmpf k').2.2.1 (.instanceMethod (xynf k')) && xwd (xmpf k').2.2.2 (.selects (xynf k').cls (xynf k') (xynf k')) && decide (xcxf k' < 9 ∨ xcxf k' = 100)
  | 2 | 5 => xwd (xmpf k').2.2.1 (.instanceMethod (xynf k')) && decide ((xynf k').name = "<init>") && decide (xrtf k' = none) && decide (xcxf k' < 9)
  | _ => xwd (xmpf k').2.2.1 (.static (xynf k'))
def xck (k pc : Nat) (ins : Instr) (aux : List Int) : Bool := match ins with
  | .ldc ix => match aux with
    | [t, v, pl] => if t = 0 then xwd pl.toNat (.constant (xowf k) ix (Int32.ofInt v)) else decide ((xowf k, ix, v.toNat) ∈ xsr) && decide (v.toNat < 14)
    | _ => false
  | .ldc2_w ix => match aux with
    | [v, pl] => xwd pl.toNat (.constantLong (xowf k) ix (Int64.ofInt v))
    | _ => false
  | .getstatic ix => match aux with
    | [t, pl] => if t = 0 then xwd pl.toNat (.fieldLink (xowf k) ix "LampStrip$Script" "NUMBERS_OF" "[I")
      else if t = 1 then xwd pl.toNat (.fieldLink (xowf k) ix "java/lang/String" "COMPACT_STRINGS" "Z")
      else xwd pl.toNat (.fieldLink (xowf k) ix "jdk/internal/util/Preconditions" "SIOOBE_FORMATTER" "Ljava/util/function/BiFunction;")
    | _ => false
  | .getfield ix => match aux with
    | [c, j, nest, pl] => if c = 100 then (if j = 0 then xwd pl.toNat (.fieldLink (xowf k) ix "java/lang/String" "value" "[B") else decide (j = 1) && xwd pl.toNat (.fieldLink (xowf k) ix "java/lang/String" "coder" "B"))
      else decide (0 ≤ c ∧ c < 9) && decide (j.toNat < xnf c.toNat) && (if nest = 0 then xwd pl.toNat (.fieldLink (xowf k) ix (xTf c.toNat j.toNat).1 (xTf c.toNat j.toNat).2.1 (xTf c.toNat j.toNat).2.2.1)
        else xwn pl.toNat (.fieldLinkNest (xowf k) ix (xTf c.toNat j.toNat).1 (xTf c.toNat j.toNat).2.1 (xTf c.toNat j.toNat).2.2.1 "LampStrip"))
    | _ => false
  | .putfield ix => match aux with
    | [c, j, nest, pl] => decide (0 ≤ c ∧ c < 9) && decide (j.toNat < xnf c.toNat) && (if nest = 0 then xwd pl.toNat (.fieldLink (xowf k) ix (xTf c.toNat j.toNat).1 (xTf c.toNat j.toNat).2.1 (xTf c.toNat j.toNat).2.2.1) && ((!(xTf c.toNat j.toNat).2.2.2) || (decide ((xynf k).name = "<init>") && decide ((xTf c.toNat j.toNat).1 = xowf k)))
        else xwn pl.toNat (.fieldLinkNest (xowf k) ix (xTf c.toNat j.toNat).1 (xTf c.toNat j.toNat).2.1 (xTf c.toNat j.toNat).2.2.1 "LampStrip") && !(xTf c.toNat j.toNat).2.2.2)
    | _ => false
  | .new ix => match aux with
    | [_, c, pl] => decide (0 ≤ c ∧ c < 9) && xwd pl.toNat (.classLink (xowf k) ix (xRXf c.toNat))
    | [_, e, pl, ic] => decide (0 ≤ e ∧ e < 4) && decide (xowf k = RX7) && decide (ic.toNat = xIC e.toNat) && xwd pl.toNat (.classLink (xowf k) ix (xEX e.toNat)) && xdec k (pc + 3) .dup 1 && xdec k (pc + 4) (.invokespecial ic.toNat) 3 && xdec k (pc + 7) .athrow 1
    | _ => false
  | .newarray t => match aux with
    | [a] => match t with
      | .int => decide (a = 0)
      | .byte => decide (a = 1)
      | .boolean => decide (a = 2)
      | .long => decide (a = 3)
      | _ => false
    | _ => false
  | .anewarray ix => match aux with
    | [_, pl] => xwd pl.toNat (.classLink (xowf k) ix "LampStrip$Strip")
    | _ => false
  | .multianewarray ix n => match aux with
    | [_, _, pl] => decide (n = 2) && xwd pl.toNat (.classLink (xowf k) ix "[[I")
    | _ => false
  | .checkcast ix => match aux with
    | [pl] => xwd pl.toNat (.classLink (xowf k) ix "[I")
    | _ => false
  | .invokevirtual ix => match aux with
    | [k', na, kind, pl] => if kind = 22 then xwd pl.toNat (.methodLink (xowf k) ix xcloneN)
      else if kind ≤ 6 then decide (kind = 0 ∨ kind = 3) && xkd k'.toNat kind.toNat && decide ((parseMethodDescriptor (xynf k'.toNat).desc).map (fun d => d.parameters.length + 1) = some na.toNat) && (if kind = 0 then xwd pl.toNat (.methodLink (xowf k) ix (xynf k'.toNat)) else xwn pl.toNat (.methodLinkNest (xowf k) ix (xynf k'.toNat) "LampStrip"))
      else decide (kind = 99)
    | _ => false
  | .invokespecial ix => match aux with
    | [k', na, kind, pl] => if kind = 20 then xwd pl.toNat (.methodLink (xowf k) ix Lib.objectInit)
      else if kind ≤ 6 then decide (kind = 2 ∨ kind = 5) && xkd k'.toNat kind.toNat && decide ((parseMethodDescriptor (xynf k'.toNat).desc).map (fun d => d.parameters.length + 1) = some na.toNat) && (if kind = 2 then xwd pl.toNat (.methodLink (xowf k) ix (xynf k'.toNat)) else xwn pl.toNat (.methodLinkNest (xowf k) ix (xynf k'.toNat) "LampStrip"))
      else decide (kind = 23)
    | _ => false
  | .invokestatic ix => match aux with
    | [k', na, kind, pl] => if kind = 21 then xwd pl.toNat (.methodLink (xowf k) ix arraycopyName)
      else if kind = 24 then xwd pl.toNat (.methodLink (xowf k) ix Lib.Math.max.name)
      else if kind = 25 then xwd pl.toNat (.methodLink (xowf k) ix Lib.Math.min.name)
      else if kind = 26 then xwd pl.toNat (.methodLink (xowf k) ix Lib.MathLoose.max_long.x)
      else if kind = 27 then xwd pl.toNat (.methodLink (xowf k) ix Lib.MathLoose.min_long.x)
      else if kind ≤ 6 then decide (kind = 1 ∨ kind = 4 ∨ kind = 6) && xkd k'.toNat kind.toNat && decide ((parseMethodDescriptor (xynf k'.toNat).desc).map (fun d => d.parameters.length) = some na.toNat) && (if kind = 4 then xwn pl.toNat (.methodLinkNest (xowf k) ix (xynf k'.toNat) "LampStrip") else xwd pl.toNat (.methodLink (xowf k) ix (xynf k'.toNat))) && decide ((kind = 6) = (xhn k'.toNat ≠ []))
      else decide (kind = 99)
    | _ => false
  | .lreturn => decide (xrtf k = some .long)
  | .dreturn => decide (xrtf k = some .double)
  | .areturn => decide (xrtf k = some (.array .int))
  | .return_ => decide (xrtf k = none)
  | _ => true
/-- where the row goes on: the next row's pc, the target's -/
def xjp (k i pc : Nat) (ins : Instr) (aux : List Int) : Bool := match ins with
  | .goto off => match xpc k (xtgt aux) with
    | some t => decide ((pc : Int) + off = (t : Int))
    | none => false
  | .ifCond _ off => (match xpc k (xtgt aux) with
    | some t => decide ((pc : Int) + off = (t : Int))
    | none => false) && decide (xpc k (i + 1) = some (pc + 3))
  | .if_icmp _ off => (match xpc k (xtgt aux) with
    | some t => decide ((pc : Int) + off = (t : Int))
    | none => false) && decide (xpc k (i + 1) = some (pc + 3))
  | .tableswitch dflt lo hi offs => (match xpc k (xtgt aux) with
    | some t => decide ((pc : Int) + dflt = (t : Int))
    | none => false) && decide (aux.length = 1 + offs.size) && decide ((hi - lo + 1).toNat = offs.size) && decide (lo ≤ hi) && (List.range offs.size).all (fun j => match aux[1 + j]?, offs[j]? with
      | some t, some off => (match xpc k t.toNat with
        | some tp => decide ((pc : Int) + off = (tp : Int))
        | none => false)
      | _, _ => false)
  | .ireturn | .lreturn | .dreturn | .areturn | .return_ | .athrow => true
  | .new _ => match aux with
    | [_, _, _] => decide (xpc k (i + 1) = some (pc + 3))
    | _ => true
  | ins => decide (xpc k (i + 1) = some (pc + xlen ins))
def xrow (k i : Nat) (q : xI) : Bool := (match q.2.1 with
    | .tableswitch a b c o => (match decode (xbyf k) q.1 with
      | .ok (j, _) => decide (j = .tableswitch a b c o)
      | _ => false)
    | ins => xdec k q.1 ins (xlen ins)) && xck k q.1 q.2.1 q.2.2 && xjp k i q.1 q.2.1 q.2.2
def xrowsF (k : Nat) : Nat → List xI → Bool
  | _, [] => true
  | i, q :: r => xrow k i q && xrowsF k (i + 1) r
def xhw (k : Nat) (h : (Nat × Nat × Nat × Nat) × Nat × Nat × Nat) : Bool := xwd (match h.2.1 with
  | 0 => 654
  | 1 => 1014
  | 2 => 1115
  | _ => 1156) (.classLink (xowf k) h.1.2.2.2 (xEX h.2.1))
def xme (k : Nat) : Bool := xwd (xmpf k).2.1 (.initialized (xynf k).cls) && decide (xmlf k ≤ 41) && decide ((xynf k).cls = xowf k) && Jvm.plainName (xynf k).cls && decide ((xynf k).cls ≠ "java/lang/invoke/MethodHandle" ∧ (xynf k).cls ≠ "java/lang/invoke/VarHandle") && decide (xpc k 0 = some 0) && decide (xowf k = RX7 → xhn k = []) && (if xhn k = [] then xwd (xmpf k).1 (.code (xynf k) (xbyf k) (xmlf k) (xrtf k)) else xwd (xmpf k).1 (.codeWith (xynf k) (xbyf k) (xmlf k) (xrtf k) ((xhn k).map (·.1))) && (xhn k).all (fun h => decide (h.2.1 < 4) && decide (h.1.2.2.2 ≠ 0) && xhw k h && (match (cds.getD k []).find? (fun q => decide (q.1 = h.1.2.2.1)) with
      | some q => (decide (q.2.1 = .astore h.2.2.2) && decide (xpc k h.2.2.1 = some (q.1 + 2)) || (match q.2.1 with
        | .astore_n n => decide (n.val = h.2.2.2) && decide (xpc k h.2.2.1 = some (q.1 + 1))
        | _ => false)) && xdec k q.1 q.2.1 (xlen q.2.1) && decide (h.2.2.2 < xmlf k)
      | none => false)))

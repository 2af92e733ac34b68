/-! ===== the table's own check: each row decodes, each link stands among the tables' words ===== -/
def xowf (k : Nat) : String := (xow[k]?).getD ""
def xynf (k : Nat) : MethodName := (xyn[k]?).getD ⟨"", "", ""⟩
def xbyf (k : Nat) : ByteArray := (xby[k]?).getD ByteArray.empty
def xTf (c j : Nat) : String × String × String × Bool := match c with
  | 0 => TX0 j
  | 1 => TX1 j
  | 2 => TX2 j
  | 3 => TX3 j
  | 4 => TX4 j
  | 5 => TX5 j
  | 6 => TX6 j
  | 7 => TX7 j
  | _ => TX8 j
def xRXf (c : Nat) : String := match c with
  | 0 => RX0
  | 1 => RX1
  | 2 => RX2
  | 3 => RX3
  | 4 => RX4
  | 5 => RX5
  | 6 => RX6
  | 7 => RX7
  | _ => RX8
def xEX (e : Nat) : String := match e with
  | 0 => "java/lang/IllegalArgumentException"
  | 1 => "java/lang/IndexOutOfBoundsException"
  | 2 => "java/lang/IllegalStateException"
  | _ => "java/util/NoSuchElementException"
def xIC (e : Nat) : Nat := match e with
  | 0 => 88
  | 1 => 172
  | 2 => 282
  | _ => 289
def xsr : List (String × Nat × Nat) := [("LampStrip$Script", 79, 6), ("LampStrip$Script", 85, 9), ("LampStrip$Script", 87, 7), ("LampStrip$Script", 89, 10), ("LampStrip$Script", 91, 2), ("LampStrip$Script", 93, 8), ("LampStrip$Setup", 64, 11), ("LampStrip$Setup", 80, 5), ("LampStrip$Setup", 88, 0), ("LampStrip$Setup", 92, 6), ("LampStrip$Setup", 97, 7), ("LampStrip$Setup", 102, 3), ("LampStrip$Setup", 146, 4), ("LampStrip$Setup", 148, 1), ("LampStrip$Setup", 154, 12), ("LampStrip$Sum", 59, 13), ("LampStrip$Sum", 65, 7), ("LampStripModel", 130, 13), ("LampStripModel", 136, 7), ("LampStripModel", 167, 4), ("LampStripModel", 169, 1), ("LampStripModel", 171, 12), ("LampStripModel", 178, 5), ("LampStripModel", 183, 0), ("LampStripModel", 187, 6), ("LampStripModel", 195, 3), ("LampStripModel", 207, 11), ("LampStripModel", 219, 9), ("LampStripModel", 221, 10), ("LampStripModel", 223, 2), ("LampStripModel", 225, 8)]
/-- places of a method's own words: code, initialized, instance or static, selects (0: none) -/
def xmp : List (Nat × Nat × Nat × Nat) := [(158, 86, 157, 0), (429, 86, 427, 428), (453, 86, 451, 452), (457, 86, 456, 1), (460, 86, 459, 0), (347, 92, 346, 0), (887, 92, 885, 886), (508, 92, 506, 507), (313, 91, 312, 0), (936, 91, 934, 935), (1005, 91, 1003, 1004), (1001, 91, 999, 1000), (900, 91, 898, 899), (904, 91, 903, 17), (910, 91, 909, 18), (914, 91, 913, 19), (927, 91, 926, 20), (940, 91, 939, 21), (944, 91, 943, 22), (948, 91, 947, 23), (269, 89, 268, 0), (678, 89, 676, 677), (686, 89, 685, 5), (772, 89, 771, 7), (778, 89, 777, 8), (793, 89, 792, 9), (799, 89, 798, 10), (811, 89, 810, 11), (820, 89, 819, 12), (178, 87, 177, 0), (183, 87, 181, 182), (512, 87, 510, 511), (615, 87, 613, 614), (647, 87, 645, 646), (446, 87, 444, 445), (994, 87, 992, 993), (805, 87, 803, 804), (542, 87, 540, 541), (952, 87, 950, 951), (815, 87, 813, 814), (964, 87, 962, 963), (788, 87, 786, 787), (639, 87, 637, 638), (438, 87, 436, 437), (494, 87, 492, 493), (486, 87, 484, 485), (442, 87, 441, 0), (478, 87, 477, 2), (635, 87, 633, 634), (497, 87, 496, 0), (490, 87, 488, 489), (434, 87, 432, 433), (968, 87, 966, 967), (972, 87, 970, 971), (977, 87, 975, 976), (981, 87, 979, 980), (985, 87, 984, 24), (989, 87, 988, 25), (538, 87, 537, 3), (534, 87, 532, 533), (1068, 87, 1067, 27), (1061, 87, 1059, 1060), (1029, 87, 1027, 1028), (1033, 87, 1032, 26), (449, 87, 448, 0), (275, 90, 274, 0), (682, 90, 680, 681), (854, 90, 852, 853), (825, 90, 823, 824), (846, 90, 845, 15), (829, 90, 828, 13), (850, 90, 849, 16), (841, 90, 840, 14), (120, 85, 119, 0), (409, 85, 407, 408), (883, 85, 881, 882), (879, 85, 877, 878), (413, 85, 411, 412), (875, 85, 873, 874), (661, 85, 659, 660), (667, 85, 665, 666), (670, 85, 669, 0), (674, 85, 673, 0), (768, 85, 766, 767), (764, 85, 762, 763), (695, 85, 693, 694), (870, 85, 868, 869), (760, 85, 758, 759), (691, 85, 689, 690), (755, 85, 753, 754), (747, 85, 745, 746), (784, 85, 782, 783), (751, 85, 750, 6), (112, 84, 111, 0), (405, 84, 403, 404), (657, 84, 655, 656), (896, 84, 894, 895), (417, 84, 415, 416), (421, 84, 419, 420), (524, 84, 522, 523), (611, 84, 609, 610), (643, 84, 641, 642), (1025, 84, 1023, 1024), (1040, 84, 1038, 1039), (1048, 84, 1046, 1047), (1057, 84, 1055, 1056), (425, 84, 423, 424), (482, 84, 480, 481), (1075, 84, 1073, 1074), (1085, 84, 1083, 1084), (1093, 84, 1091, 1092), (1101, 84, 1099, 1100), (1109, 84, 1107, 1108), (1118, 84, 1116, 1117), (1144, 84, 1142, 1143), (1151, 84, 1149, 1150), (1159, 84, 1157, 1158), (504, 84, 502, 503), (519, 84, 517, 518), (956, 84, 955, 0), (1121, 84, 1120, 0), (500, 84, 499, 0), (1179, 93, 1178, 0), (1279, 93, 1277, 1278), (1294, 93, 1293, 28), (1290, 93, 1289, 0), (1332, 93, 1331, 0), (1399, 93, 1398, 0), (1185, 93, 1184, 0), (1283, 93, 1281, 1282), (1315, 93, 1314, 33), (1311, 93, 1310, 32), (1307, 93, 1306, 31), (1321, 93, 1320, 34), (1328, 93, 1327, 0), (1303, 93, 1302, 30), (1336, 93, 1335, 36), (1325, 93, 1324, 35), (1392, 93, 1391, 46), (1387, 93, 1386, 45), (1383, 93, 1382, 44), (1379, 93, 1378, 43), (1374, 93, 1373, 42), (1345, 93, 1344, 38), (1357, 93, 1356, 40), (1353, 93, 1352, 39), (1368, 93, 1367, 0), (1365, 93, 1364, 41), (1340, 93, 1339, 37), (1298, 93, 1297, 29), (1287, 93, 1285, 1286), (1403, 93, 1401, 1402), (1415, 93, 1414, 49), (1411, 93, 1410, 48), (1423, 93, 1422, 50), (1407, 93, 1405, 1406), (1427, 93, 1426, 51), (1431, 93, 1430, 52), (1441, 93, 1440, 53), (1522, 93, 1520, 1521), (1188, 93, 1187, 0), (1348, 93, 1347, 0), (1449, 93, 1448, 55), (1453, 93, 1452, 56), (1498, 93, 1497, 65), (1506, 93, 1505, 67), (1502, 93, 1501, 66), (1518, 93, 1517, 70), (1514, 93, 1513, 69), (1510, 93, 1509, 68), (1494, 93, 1493, 64), (1490, 93, 1489, 63), (1546, 93, 1545, 75), (1542, 93, 1541, 74), (1479, 93, 1478, 0), (1476, 93, 1475, 0), (1473, 93, 1472, 61), (1469, 93, 1468, 60), (1486, 93, 1485, 62), (1465, 93, 1464, 59), (1461, 93, 1460, 58), (1445, 93, 1444, 54), (1457, 93, 1456, 57), (1437, 93, 1436, 0), (1434, 93, 1433, 0), (1554, 93, 1553, 76), (1566, 93, 1565, 78), (1538, 93, 1537, 73), (1534, 93, 1533, 72), (1530, 93, 1529, 71), (1526, 93, 1524, 1525), (1558, 93, 1557, 77), (1550, 93, 1548, 1549), (1570, 93, 1569, 79), (1562, 93, 1560, 1561), (1578, 93, 1577, 80), (1574, 93, 1572, 1573), (1582, 93, 1580, 1581), (1586, 93, 1584, 1585), (1590, 93, 1588, 1589), (1598, 93, 1597, 81), (1594, 93, 1592, 1593), (1602, 93, 1600, 1601), (1396, 93, 1395, 47), (1606, 93, 1604, 1605), (1610, 93, 1608, 1609), (1614, 93, 1612, 1613), (1618, 93, 1616, 1617), (1622, 93, 1620, 1621), (1626, 93, 1624, 1625), (1630, 93, 1628, 1629), (1638, 93, 1637, 82), (1634, 93, 1632, 1633), (1642, 93, 1640, 1641), (1646, 93, 1644, 1645), (1650, 93, 1648, 1649), (527, 103, 526, 0), (699, 99, 697, 698), (709, 99, 707, 708), (703, 99, 701, 702), (713, 99, 711, 712), (719, 99, 718, 0), (716, 100, 715, 0), (186, 88, 185, 0), (857, 88, 856, 0), (724, 101, 723, 0), (652, 83, 651, 0), (892, 83, 891, 0), (1008, 83, 1007, 0), (1012, 83, 1011, 0), (1017, 83, 1016, 0), (1021, 83, 1020, 0), (1036, 83, 1035, 0), (1044, 83, 1043, 0), (1053, 83, 1052, 0), (1071, 83, 1070, 0), (1081, 83, 1080, 0), (1089, 83, 1088, 0), (1097, 83, 1096, 0), (1105, 83, 1104, 0), (1113, 83, 1112, 0), (1140, 83, 1139, 0), (1147, 83, 1146, 0), (1154, 83, 1153, 0), (0, 83, 0, 0)]
def xmpf (k : Nat) : Nat × Nat × Nat × Nat := (xmp[k]?).getD (0, 0, 0, 0)
def xwd (j : Nat) (w : Cond) : Bool := decide (lw_tbl[j]? = some w) && goodWord w
def xwn (j : Nat) (w : Cond) : Bool := decide (lw_tbl[j]? = some w)
def xcloneN : MethodName := ⟨"[I", "clone", "()Ljava/lang/Object;"⟩
def xlen : Instr → Nat
  | .iconst _ | .lconst _ | .dconst _ | .iload_n _ | .lload_n _ | .dload_n _ | .aload_n _ | .istore_n _ | .lstore_n _ | .dstore_n _ | .astore_n _ => 1
  | .bipush _ | .ldc _ | .iload _ | .lload _ | .dload _ | .aload _ | .istore _ | .lstore _ | .dstore _ | .astore _ | .newarray _ => 2
  | .sipush _ | .ldc2_w _ | .getstatic _ | .iinc _ _ | .goto _ | .ifCond _ _ | .if_icmp _ _ | .getfield _ | .putfield _ | .new _ | .anewarray _ | .checkcast _ | .invokevirtual _ | .invokespecial _ | .invokestatic _ => 3
  | .multianewarray _ _ => 4
  | _ => 1
def xdec (k pc : Nat) (ins : Instr) (n : Nat) : Bool := match decode (xbyf k) pc with
  | .ok (j, m) => decide (j = ins) && decide (m = n)
  | _ => false
/-- the kinds of calls: 0 virtual, 1 static, 2 a constructor; 3, 4, 5 the same of a nest mate; 6 static with a table of its own -/
def xkd (k' kind : Nat) : Bool := decide (k' < 244) && match kind with
  | 0 | 3 => xwd (xmpf k').2.2.1 (.instanceMethod (xynf k')) && xwd (xmpf k').2.2.2 (.selects (xynf k').cls (xynf k') (xynf k')) && decide (xcxf k' < 9 ∨ xcxf k' = 100)
  | 2 | 5 => xwd (xmpf k').2.2.1 (.instanceMethod (xynf k')) && decide ((xynf k').name = "<init>") && decide (xrtf k' = none) && decide (xcxf k' < 9)
  | _ => xwd (xmpf k').2.2.1 (.static (xynf k'))
def xck (k pc : Nat) (ins : Instr) (aux : List Int) : Bool := match ins with
  | .ldc ix => match aux with
    | [t, v, pl] => if t = 0 then xwd pl.toNat (.constant (xowf k) ix (Int32.ofInt v)) else decide ((xowf k, ix, v.toNat) ∈ xsr) && decide (v.toNat < 14)
    | _ => false
  | .ldc2_w ix => match aux with
    | [v, pl] => xwd pl.toNat (.constantLong (xowf k) ix (Int64.ofInt v))
    | _ => false
  | .getstatic ix => match aux with
    | [t, pl] => if t = 0 then xwd pl.toNat (.fieldLink (xowf k) ix "LampStrip$Script" "NUMBERS_OF" "[I")
      else if t = 1 then xwd pl.toNat (.fieldLink (xowf k) ix "java/lang/String" "COMPACT_STRINGS" "Z")
      else xwd pl.toNat (.fieldLink (xowf k) ix "jdk/internal/util/Preconditions" "SIOOBE_FORMATTER" "Ljava/util/function/BiFunction;")
    | _ => false
  | .getfield ix => match aux with
    | [c, j, nest, pl] => if c = 100 then (if j = 0 then xwd pl.toNat (.fieldLink (xowf k) ix "java/lang/String" "value" "[B") else decide (j = 1) && xwd pl.toNat (.fieldLink (xowf k) ix "java/lang/String" "coder" "B"))
      else decide (0 ≤ c ∧ c < 9) && decide (j.toNat < xnf c.toNat) && (if nest = 0 then xwd pl.toNat (.fieldLink (xowf k) ix (xTf c.toNat j.toNat).1 (xTf c.toNat j.toNat).2.1 (xTf c.toNat j.toNat).2.2.1)
        else xwn pl.toNat (.fieldLinkNest (xowf k) ix (xTf c.toNat j.toNat).1 (xTf c.toNat j.toNat).2.1 (xTf c.toNat j.toNat).2.2.1 "LampStrip"))
    | _ => false
  | .putfield ix => match aux with
    | [c, j, nest, pl] => decide (0 ≤ c ∧ c < 9) && decide (j.toNat < xnf c.toNat) && (if nest = 0 then xwd pl.toNat (.fieldLink (xowf k) ix (xTf c.toNat j.toNat).1 (xTf c.toNat j.toNat).2.1 (xTf c.toNat j.toNat).2.2.1) && ((!(xTf c.toNat j.toNat).2.2.2) || (decide ((xynf k).name = "<init>") && decide ((xTf c.toNat j.toNat).1 = xowf k)))
        else xwn pl.toNat (.fieldLinkNest (xowf k) ix (xTf c.toNat j.toNat).1 (xTf c.toNat j.toNat).2.1 (xTf c.toNat j.toNat).2.2.1 "LampStrip") && !(xTf c.toNat j.toNat).2.2.2)
    | _ => false
  | .new ix => match aux with
    | [_, c, pl] => decide (0 ≤ c ∧ c < 9) && xwd pl.toNat (.classLink (xowf k) ix (xRXf c.toNat))
    | [_, e, pl, ic] => decide (0 ≤ e ∧ e < 4) && decide (xowf k = RX7) && decide (ic.toNat = xIC e.toNat) && xwd pl.toNat (.classLink (xowf k) ix (xEX e.toNat)) && xdec k (pc + 3) .dup 1 && xdec k (pc + 4) (.invokespecial ic.toNat) 3 && xdec k (pc + 7) .athrow 1
    | _ => false
  | .newarray t => match aux with
    | [a] => match t with
      | .int => decide (a = 0)
      | .byte => decide (a = 1)
      | .boolean => decide (a = 2)
      | .long => decide (a = 3)
      | _ => false
    | _ => false
  | .anewarray ix => match aux with
    | [_, pl] => xwd pl.toNat (.classLink (xowf k) ix "LampStrip$Strip")
    | _ => false
  | .multianewarray ix n => match aux with
    | [_, _, pl] => decide (n = 2) && xwd pl.toNat (.classLink (xowf k) ix "[[I")
    | _ => false
  | .checkcast ix => match aux with
    | [pl] => xwd pl.toNat (.classLink (xowf k) ix "[I")
    | _ => false
  | .invokevirtual ix => match aux with
    | [k', na, kind, pl] => if kind = 22 then xwd pl.toNat (.methodLink (xowf k) ix xcloneN)
      else if kind ≤ 6 then decide (kind = 0 ∨ kind = 3) && xkd k'.toNat kind.toNat && decide ((parseMethodDescriptor (xynf k'.toNat).desc).map (fun d => d.parameters.length + 1) = some na.toNat) && (if kind = 0 then xwd pl.toNat (.methodLink (xowf k) ix (xynf k'.toNat)) else xwn pl.toNat (.methodLinkNest (xowf k) ix (xynf k'.toNat) "LampStrip"))
      else decide (kind = 99)
    | _ => false
  | .invokespecial ix => match aux with
    | [k', na, kind, pl] => if kind = 20 then xwd pl.toNat (.methodLink (xowf k) ix Lib.objectInit)
      else if kind ≤ 6 then decide (kind = 2 ∨ kind = 5) && xkd k'.toNat kind.toNat && decide ((parseMethodDescriptor (xynf k'.toNat).desc).map (fun d => d.parameters.length + 1) = some na.toNat) && (if kind = 2 then xwd pl.toNat (.methodLink (xowf k) ix (xynf k'.toNat)) else xwn pl.toNat (.methodLinkNest (xowf k) ix (xynf k'.toNat) "LampStrip"))
      else decide (kind = 23)
    | _ => false
  | .invokestatic ix => match aux with
    | [k', na, kind, pl] => if kind = 21 then xwd pl.toNat (.methodLink (xowf k) ix arraycopyName)
      else if kind = 24 then xwd pl.toNat (.methodLink (xowf k) ix Lib.Math.max.name)
      else if kind = 25 then xwd pl.toNat (.methodLink (xowf k) ix Lib.Math.min.name)
      else if kind = 26 then xwd pl.toNat (.methodLink (xowf k) ix Lib.MathLoose.max_long.x)
      else if kind = 27 then xwd pl.toNat (.methodLink (xowf k) ix Lib.MathLoose.min_long.x)
      else if kind ≤ 6 then decide (kind = 1 ∨ kind = 4 ∨ kind = 6) && xkd k'.toNat kind.toNat && decide ((parseMethodDescriptor (xynf k'.toNat).desc).map (fun d => d.parameters.length) = some na.toNat) && (if kind = 4 then xwn pl.toNat (.methodLinkNest (xowf k) ix (xynf k'.toNat) "LampStrip") else xwd pl.toNat (.methodLink (xowf k) ix (xynf k'.toNat))) && decide ((kind = 6) = (xhn k'.toNat ≠ []))
      else decide (kind = 99)
    | _ => false
  | .lreturn => decide (xrtf k = some .long)
  | .dreturn => decide (xrtf k = some .double)
  | .areturn => decide (xrtf k = some (.array .int))
  | .return_ => decide (xrtf k = none)
  | _ => true
/-- where the row goes on: the next row's pc, the target's -/
def xjp (k i pc : Nat) (ins : Instr) (aux : List Int) : Bool := match ins with
  | .goto off => match xpc k (xtgt aux) with
    | some t => decide ((pc : Int) + off = (t : Int))
    | none => false
  | .ifCond _ off => (match xpc k (xtgt aux) with
    | some t => decide ((pc : Int) + off = (t : Int))
    | none => false) && decide (xpc k (i + 1) = some (pc + 3))
  | .if_icmp _ off => (match xpc k (xtgt aux) with
    | some t => decide ((pc : Int) + off = (t : Int))
    | none => false) && decide (xpc k (i + 1) = some (pc + 3))
  | .tableswitch dflt lo hi offs => (match xpc k (xtgt aux) with
    | some t => decide ((pc : Int) + dflt = (t : Int))
    | none => false) && decide (aux.length = 1 + offs.size) && decide ((hi - lo + 1).toNat = offs.size) && decide (lo ≤ hi) && (List.range offs.size).all (fun j => match aux[1 + j]?, offs[j]? with
      | some t, some off => (match xpc k t.toNat with
        | some tp => decide ((pc : Int) + off = (tp : Int))
        | none => false)
      | _, _ => false)
  | .ireturn | .lreturn | .dreturn | .areturn | .return_ | .athrow => true
  | .new _ => match aux with
    | [_, _, _] => decide (xpc k (i + 1) = some (pc + 3))
    | _ => true
  | ins => decide (xpc k (i + 1) = some (pc + xlen ins))
def xrow (k i : Nat) (q : xI) : Bool := (match q.2.1 with
    | .tableswitch a b c o => (match decode (xbyf k) q.1 with
      | .ok (j, _) => decide (j = .tableswitch a b c o)
      | _ => false)
    | ins => xdec k q.1 ins (xlen ins)) && xck k q.1 q.2.1 q.2.2 && xjp k i q.1 q.2.1 q.2.2
def xrowsF (k : Nat) : Nat → List xI → Bool
  | _, [] => true
  | i, q :: r => xrow k i q && xrowsF k (i + 1) r
def xhw (k : Nat) (h : (Nat × Nat × Nat × Nat) × Nat × Nat × Nat) : Bool := xwd (match h.2.1 with
  | 0 => 653
  | 1 => 1013
  | 2 => 1114
  | _ => 1155) (.classLink (xowf k) h.1.2.2.2 (xEX h.2.1))
def xme (k : Nat) : Bool := xwd (xmpf k).2.1 (.initialized (xynf k).cls) && decide (xmlf k ≤ 41) && decide ((xynf k).cls = xowf k) && Jvm.plainName (xynf k).cls && decide ((xynf k).cls ≠ "java/lang/invoke/MethodHandle" ∧ (xynf k).cls ≠ "java/lang/invoke/VarHandle") && decide (xpc k 0 = some 0) && decide (xowf k = RX7 → xhn k = []) && (if xhn k = [] then xwd (xmpf k).1 (.code (xynf k) (xbyf k) (xmlf k) (xrtf k)) else xwd (xmpf k).1 (.codeWith (xynf k) (xbyf k) (xmlf k) (xrtf k) ((xhn k).map (·.1))) && (xhn k).all (fun h => decide (h.2.1 < 4) && decide (h.1.2.2.2 ≠ 0) && xhw k h && (match (cds.getD k []).find? (fun q => decide (q.1 = h.1.2.2.1)) with
      | some q => (decide (q.2.1 = .astore h.2.2.2) && decide (xpc k h.2.2.1 = some (q.1 + 2)) || (match q.2.1 with
        | .astore_n n => decide (n.val = h.2.2.2) && decide (xpc k h.2.2.1 = some (q.1 + 1))
        | _ => false)) && xdec k q.1 q.2.1 (xlen q.2.1) && decide (h.2.2.2 < xmlf k)
      | none => false)))

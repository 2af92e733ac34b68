/-! ===== the table's own check: each row decodes, each link stands among the tables' words ===== -/
def xowf (k : Nat) : String := (xow[k]?).getD ""
def xynf (k : Nat) : MethodName := (xyn[k]?).getD ⟨"", "", ""⟩
def xbyf (k : Nat) : ByteArray := (xby[k]?).getD ByteArray.empty
def xTf (c j : Nat) : String × String × String × Bool := match c with
  | 0 => TX0 j
  | 1 => TX1 j
  | 2 => TX2 j
  | 3 => TX3 j
  | 4 => TX4 j
  | 5 => TX5 j
  | 6 => TX6 j
  | 7 => TX7 j
  | 8 => TX8 j
  | 9 => TX9 j
  | 10 => TX10 j
  | 11 => TX11 j
  | 12 => TX12 j
  | 13 => TJ0 j
  | _ => TJ4 j
def xRXf (c : Nat) : String := match c with
  | 0 => RX0
  | 1 => RX1
  | 2 => RX2
  | 3 => RX3
  | 4 => RX4
  | 5 => RX5
  | 6 => RX6
  | 7 => RX7
  | 8 => RX8
  | 9 => RX9
  | 10 => RX10
  | 11 => RX11
  | 12 => RX12
  | 13 => RJ0
  | _ => RJ4
def xEX (e : Nat) : String := match e with
  | 0 => "java/lang/IllegalArgumentException"
  | 1 => "java/lang/IndexOutOfBoundsException"
  | 2 => "java/lang/IllegalStateException"
  | _ => "java/util/NoSuchElementException"
def xIC (e : Nat) : Nat := match e with
  | 0 => 88
  | 1 => 172
  | 2 => 282
  | _ => 289
def xsr : List (String × Nat × Nat) := [("LampStrip$Script", 79, 6), ("LampStrip$Script", 85, 9), ("LampStrip$Script", 87, 7), ("LampStrip$Script", 89, 10), ("LampStrip$Script", 91, 2), ("LampStrip$Script", 93, 8), ("LampStrip$Setup", 64, 11), ("LampStrip$Setup", 80, 5), ("LampStrip$Setup", 88, 0), ("LampStrip$Setup", 92, 6), ("LampStrip$Setup", 97, 7), ("LampStrip$Setup", 102, 3), ("LampStrip$Setup", 146, 4), ("LampStrip$Setup", 148, 1), ("LampStrip$Setup", 154, 12), ("LampStrip$Sum", 59, 13), ("LampStrip$Sum", 65, 7), ("LampStripLaw", 115, 16), ("LampStripLaw", 139, 11), ("LampStripLaw", 145, 24), ("LampStripLaw", 147, 5), ("LampStripLaw", 160, 0), ("LampStripLaw", 174, 6), ("LampStripLaw", 177, 7), ("LampStripLaw", 188, 25), ("LampStripLaw", 194, 18), ("LampStripLaw", 215, 19), ("LampStripLaw", 225, 20), ("LampStripLaw$Node", 37, 15), ("LampStripLaw$Node", 60, 22), ("LampStripLaw$Node", 62, 17), ("LampStripLaw$Node", 64, 21), ("LampStripLaw$Node", 66, 23), ("LampStripLaw$Node", 68, 19), ("LampStripLaw$Node", 70, 20)]
/-- places of a method's own words: code, initialized, instance or static, selects (0: none) -/
def xmp : List (Nat × Nat × Nat × Nat) := [(113, 32, 112, 0), (989, 32, 987, 988), (994, 32, 992, 993), (998, 32, 997, 21), (1001, 32, 1000, 0), (301, 38, 300, 0), (894, 38, 892, 893), (371, 38, 369, 370), (267, 37, 266, 0), (944, 37, 942, 943), (1063, 37, 1061, 1062), (1059, 37, 1057, 1058), (908, 37, 906, 907), (912, 37, 911, 14), (918, 37, 917, 15), (922, 37, 921, 16), (935, 37, 934, 17), (948, 37, 947, 18), (952, 37, 951, 19), (956, 37, 955, 20), (223, 35, 222, 0), (683, 35, 681, 682), (691, 35, 690, 1), (777, 35, 776, 3), (783, 35, 782, 4), (800, 35, 799, 5), (811, 35, 810, 6), (823, 35, 822, 7), (832, 35, 831, 8), (133, 33, 132, 0), (138, 33, 136, 137), (375, 33, 373, 374), (964, 33, 962, 963), (1235, 33, 1233, 1234), (1095, 33, 1093, 1094), (1052, 33, 1050, 1051), (817, 33, 815, 816), (1144, 33, 1142, 1143), (960, 33, 958, 959), (827, 33, 825, 826), (977, 33, 975, 976), (795, 33, 793, 794), (1103, 33, 1101, 1102), (1036, 33, 1034, 1035), (1032, 33, 1030, 1031), (944, 37, 942, 943), (1040, 33, 1039, 24), (1044, 33, 1043, 25), (1631, 33, 1629, 1630), (1047, 33, 1046, 0), (1028, 33, 1026, 1027), (944, 37, 942, 943), (981, 33, 979, 980), (985, 33, 983, 984), (1011, 33, 1009, 1010), (1015, 33, 1013, 1014), (1019, 33, 1018, 22), (1024, 33, 1023, 23), (1129, 33, 1128, 27), (1125, 33, 1123, 1124), (1150, 33, 1149, 28), (1140, 33, 1138, 1139), (1091, 33, 1089, 1090), (1099, 33, 1098, 26), (787, 33, 786, 0), (229, 36, 228, 0), (687, 36, 685, 686), (866, 36, 864, 865), (837, 36, 836, 9), (858, 36, 857, 12), (841, 36, 840, 10), (862, 36, 861, 13), (853, 36, 852, 11), (75, 31, 74, 0), (593, 31, 591, 592), (890, 31, 888, 889), (886, 31, 884, 885), (1280, 31, 1278, 1279), (882, 31, 880, 881), (662, 31, 660, 661), (672, 31, 670, 671), (675, 31, 674, 0), (679, 31, 678, 0), (773, 31, 771, 772), (769, 31, 767, 768), (700, 31, 698, 699), (877, 31, 875, 876), (765, 31, 763, 764), (696, 31, 694, 695), (760, 31, 758, 759), (752, 31, 750, 751), (791, 31, 789, 790), (756, 31, 755, 2), (67, 30, 66, 0), (1276, 30, 1274, 1275), (589, 30, 587, 588), (904, 30, 902, 903), (359, 30, 357, 358), (363, 30, 361, 362), (1621, 30, 1619, 1620), (1627, 30, 1625, 1626), (1635, 30, 1633, 1634), (1071, 30, 1069, 1070), (1111, 30, 1109, 1110), (1119, 30, 1117, 1118), (1136, 30, 1134, 1135), (944, 37, 942, 943), (944, 37, 942, 943), (1158, 30, 1156, 1157), (1168, 30, 1166, 1167), (1176, 30, 1174, 1175), (1184, 30, 1182, 1183), (1192, 30, 1190, 1191), (1202, 30, 1200, 1201), (1231, 30, 1229, 1230), (1242, 30, 1240, 1241), (1250, 30, 1248, 1249), (367, 30, 365, 366), (1616, 30, 1614, 1615), (967, 30, 966, 0), (1205, 30, 1204, 0), (972, 30, 971, 0), (1589, 62, 1588, 0), (405, 41, 404, 0), (490, 41, 488, 489), (553, 41, 551, 552), (1323, 57, 1322, 0), (1318, 57, 1317, 0), (1344, 57, 1342, 1343), (530, 57, 528, 529), (383, 39, 382, 0), (392, 39, 390, 391), (398, 40, 397, 0), (484, 40, 482, 483), (525, 40, 523, 524), (521, 40, 519, 520), (557, 40, 555, 556), (565, 40, 563, 564), (561, 40, 559, 560), (549, 40, 547, 548), (545, 40, 543, 544), (506, 40, 504, 505), (502, 40, 500, 501), (517, 40, 515, 516), (513, 40, 511, 512), (569, 40, 567, 568), (573, 40, 571, 572), (577, 40, 575, 576), (1669, 40, 1667, 1668), (1651, 40, 1649, 1650), (1646, 40, 1644, 1645), (1655, 40, 1653, 1654), (1660, 40, 1658, 1659), (1641, 40, 1639, 1640), (1352, 58, 1351, 0), (1517, 58, 1511, 1513), (1390, 58, 1389, 0), (1394, 58, 1393, 0), (1382, 58, 1381, 0), (1473, 58, 1472, 0), (1509, 58, 1506, 1508), (1416, 58, 1413, 1415), (1440, 58, 1439, 0), (1436, 58, 1435, 0), (1479, 61, 1478, 0), (1476, 61, 1475, 0), (1500, 53, 1499, 0), (1464, 53, 1462, 1463), (1503, 53, 1502, 0), (1349, 59, 1348, 0), (1379, 59, 1377, 1378), (1470, 59, 1468, 1469), (1495, 59, 1493, 1494), (1515, 59, 1514, 0), (1406, 34, 1405, 0), (1527, 34, 1526, 0), (1521, 34, 1520, 0), (1524, 34, 1523, 0), (1397, 60, 1396, 0), (1303, 29, 1302, 0), (1272, 29, 1271, 0), (1580, 29, 1579, 0), (1298, 29, 1297, 0), (1307, 29, 1306, 0), (584, 29, 583, 0), (900, 29, 899, 0), (1663, 29, 1662, 0), (1672, 29, 1671, 0), (1677, 29, 1676, 0), (1066, 29, 1065, 0), (1107, 29, 1106, 0), (1115, 29, 1114, 0), (1132, 29, 1131, 0), (1154, 29, 1153, 0), (1164, 29, 1163, 0), (1172, 29, 1171, 0), (1180, 29, 1179, 0), (1188, 29, 1187, 0), (1197, 29, 1196, 0), (1227, 29, 1226, 0), (1238, 29, 1237, 0), (1245, 29, 1244, 0), (1269, 29, 1268, 0), (509, 29, 508, 0), (1283, 29, 1282, 0), (1295, 29, 1294, 0), (1286, 29, 1285, 0), (1289, 29, 1288, 0), (1583, 29, 1582, 0), (1612, 29, 1611, 0), (944, 37, 942, 943), (944, 37, 942, 943), (944, 37, 942, 943), (944, 37, 942, 943), (944, 37, 942, 943), (944, 37, 942, 943), (803, 43, 802, 0), (704, 53, 702, 703), (714, 53, 712, 713), (708, 53, 706, 707), (718, 53, 716, 717), (724, 53, 723, 0), (721, 54, 720, 0), (141, 34, 140, 0), (869, 34, 868, 0), (729, 55, 728, 0), (944, 37, 942, 943), (944, 37, 942, 943), (944, 37, 942, 943), (944, 37, 942, 943), (944, 37, 942, 943), (944, 37, 942, 943), (944, 37, 942, 943), (944, 37, 942, 943), (944, 37, 942, 943), (944, 37, 942, 943), (944, 37, 942, 943), (944, 37, 942, 943), (944, 37, 942, 943), (944, 37, 942, 943), (944, 37, 942, 943), (944, 37, 942, 943), (944, 37, 942, 943), (944, 37, 942, 943), (0, 29, 0, 0)]
def xmpf (k : Nat) : Nat × Nat × Nat × Nat := (xmp[k]?).getD (0, 0, 0, 0)
def xwd (j : Nat) (w : Cond) : Bool := decide (lw_tbl[j]? = some w) && goodWord w
def xwn (j : Nat) (w : Cond) : Bool := decide (lw_tbl[j]? = some w)
def xcloneN (z : Nat) : MethodName := ⟨if z = 0 then "[I" else "[B", "clone", "()Ljava/lang/Object;"⟩
/-- the statics, by number -/
def xsn (t : Nat) : String × String × String := match t with
  | 0 => ("LampStrip$Script", "NUMBERS_OF", "[I")
  | 1 => ("java/lang/String", "COMPACT_STRINGS", "Z")
  | 2 => ("jdk/internal/util/Preconditions", "SIOOBE_FORMATTER", "Ljava/util/function/BiFunction;")
  | 3 => ("LampStripLaw", "KINDS", "[Ljava/lang/String;")
  | 4 => ("LampStripLaw", "VARIABLES", "[Ljava/lang/String;")
  | 5 => ("LampStripLaw", "WORDS", "[Ljava/lang/String;")
  | 6 => ("java/lang/Integer", "DigitOnes", "[B")
  | _ => ("java/lang/Integer", "DigitTens", "[B")
/-- the classes of rows of references, as their makers name what they hold -/
def xan (t : Nat) : String := match t with
  | 4 => "LampStrip$Strip"
  | 5 => "[I"
  | 6 => "LampStripLaw$Lamp"
  | 7 => "LampStripLaw$Strip"
  | _ => "LampStripLaw$Command"
/-- the host of a method's nest -/
def xho (k : Nat) : String := if xowf k = RX7 ∨ xowf k = RX0 ∨ xowf k = RX1 ∨ xowf k = RX2 ∨ xowf k = RX3 ∨ xowf k = RX4 ∨ xowf k = RX5 ∨ xowf k = RX6 then "LampStrip" else "LampStripLaw"
abbrev xSB : String := "java/lang/StringBuilder"
abbrev xASB : String := "java/lang/AbstractStringBuilder"
/-- the private methods of its superclass, called on a StringBuilder, are themselves what is selected -/
def xprv : List (String × String) := [("ensureCapacityInternal", "(I)V"), ("newCapacity", "(I)I"), ("putStringAt", "(ILjava/lang/String;)V"), ("inflateIfNeededFor", "(Ljava/lang/String;)V")]
def xsels : List Cond := xprv.map fun q => .selects xSB ⟨xASB, q.1, q.2⟩ ⟨xASB, q.1, q.2⟩
/-- what a call of a member that StringBuilder inherits names: a member of its superclass; length is its own again -/
def xup (k' : Nat) : MethodName := ⟨xASB, (xynf k').name, (xynf k').desc⟩
def xlen : Instr → Nat
  | .iconst _ | .lconst _ | .iload_n _ | .lload_n _ | .dload_n _ | .aload_n _ | .istore_n _ | .lstore_n _ | .dstore_n _ | .astore_n _ => 1
  | .bipush _ | .ldc _ | .iload _ | .lload _ | .dload _ | .aload _ | .istore _ | .lstore _ | .dstore _ | .astore _ | .newarray _ => 2
  | .sipush _ | .ldc_w _ | .ldc2_w _ | .ifnull _ | .ifnonnull _ | .getstatic _ | .iinc _ _ | .goto _ | .ifCond _ _ | .if_icmp _ _ | .getfield _ | .putfield _ | .new _ | .anewarray _ | .checkcast _ | .invokevirtual _ | .invokespecial _ | .invokestatic _ => 3
  | _ => 1
def xdec (k pc : Nat) (ins : Instr) (n : Nat) : Bool := match decode (xbyf k) pc with
  | .ok (j, m) => decide (j = ins) && decide (m = n)
  | _ => false
/-- the kinds of calls: 0 virtual, 1 static, 2 a constructor; 3, 4, 5 the same of a nest mate; 6 static with a table of its own; 7 a member that StringBuilder inherits, 8 the superclass's own, 9 one that overrides what is named -/
def xkd (k' kind : Nat) : Bool := decide (k' < 244) && match kind with
  | 0 | 3 => xwd (xmpf k').2.2.1 (.instanceMethod (xynf k')) && xwd (xmpf k').2.2.2 (.selects (xynf k').cls (xynf k') (xynf k')) && decide (xcxf k' < 15) && decide (xowf k' = xRXf (xcxf k'))
  | 2 | 5 => xwd (xmpf k').2.2.1 (.instanceMethod (xynf k')) && decide ((xynf k').name = "<init>") && decide (xrtf k' = none) && decide (xcxf k' < 15)
  | 7 => xwd (xmpf k').2.2.1 (.instanceMethod (xynf k')) && decide (xowf k' = xASB) && decide (xcxf k' = 14) && decide (Jvm.Cond.sameMethod xASB xASB (xynf k').name (xynf k').desc ∈ lw_tbl) && (decide (Jvm.Cond.selects xSB (xynf k') (xynf k') ∈ lw_tbl) || decide (Jvm.Cond.selects xSB (xynf k') (xynf k') ∈ xsels))
  | 8 => xwd (xmpf k').2.2.1 (.instanceMethod (xynf k')) && decide (xowf k' = xASB) && decide (xcxf k' = 14) && decide (Jvm.Cond.sameMethod xASB xASB (xynf k').name (xynf k').desc ∈ lw_tbl) && decide ((xynf k').name ≠ "<init>") && decide (Jvm.Cond.superclass xSB xASB ∈ lw_tbl)
  | 9 => xwd (xmpf k').2.2.1 (.instanceMethod (xynf k')) && decide (xowf k' = xSB) && decide (xcxf k' = 14) && decide (Jvm.Cond.sameMethod xASB xASB (xynf k').name (xynf k').desc ∈ lw_tbl) && decide (Jvm.Cond.selects xSB (xup k') (xynf k') ∈ lw_tbl) && decide (Jvm.Cond.instanceMethod (xup k') ∈ lw_tbl) && decide (xynf 155 = xup k')
  | _ => xwd (xmpf k').2.2.1 (.static (xynf k'))
def xck (k pc : Nat) (ins : Instr) (aux : List Int) : Bool := match ins with
  | .ldc ix => match aux with
    | [t, v, pl] => if t = 0 then xwd pl.toNat (.constant (xowf k) ix (Int32.ofInt v)) else decide ((xowf k, ix, v.toNat) ∈ xsr) && decide (v.toNat < 26)
    | _ => true
  | .ldc_w ix => match aux with
    | [t, v, pl] => if t = 0 then xwd pl.toNat (.constant (xowf k) ix (Int32.ofInt v)) else false
    | _ => true
  | .ldc2_w ix => match aux with
    | [v, pl] => xwd pl.toNat (.constantLong (xowf k) ix (Int64.ofInt v))
    | _ => false
  | .getstatic ix => match aux with
    | [t, nest, pl] => decide (0 ≤ t ∧ t < 8) && (if nest = 0 then xwd pl.toNat (.fieldLink (xowf k) ix (xsn t.toNat).1 (xsn t.toNat).2.1 (xsn t.toNat).2.2) else xwn pl.toNat (.fieldLinkNest (xowf k) ix (xsn t.toNat).1 (xsn t.toNat).2.1 (xsn t.toNat).2.2 (xho k)))
    | _ => false
  | .getfield ix => match aux with
    | [c, j, nest, pl] => decide (0 ≤ c ∧ c < 15) && decide (j.toNat < xnf c.toNat) && decide (c = 13 → nest = 0) && (if nest = 0 then xwd pl.toNat (.fieldLink (xowf k) ix (xTf c.toNat j.toNat).1 (xTf c.toNat j.toNat).2.1 (xTf c.toNat j.toNat).2.2.1)
        else xwn pl.toNat (.fieldLinkNest (xowf k) ix (xTf c.toNat j.toNat).1 (xTf c.toNat j.toNat).2.1 (xTf c.toNat j.toNat).2.2.1 (xho k)))
    | _ => false
  | .putfield ix => match aux with
    | [c, j, nest, pl] => decide (0 ≤ c ∧ c < 15) && decide (j.toNat < xnf c.toNat) && (if nest = 0 then xwd pl.toNat (.fieldLink (xowf k) ix (xTf c.toNat j.toNat).1 (xTf c.toNat j.toNat).2.1 (xTf c.toNat j.toNat).2.2.1) && ((!(xTf c.toNat j.toNat).2.2.2) || (decide ((xynf k).name = "<init>") && decide ((xTf c.toNat j.toNat).1 = xowf k)))
        else xwn pl.toNat (.fieldLinkNest (xowf k) ix (xTf c.toNat j.toNat).1 (xTf c.toNat j.toNat).2.1 (xTf c.toNat j.toNat).2.2.1 (xho k)) && !(xTf c.toNat j.toNat).2.2.2)
    | _ => false
  | .new ix => match aux with
    | [_, c, pl] => decide (0 ≤ c ∧ c < 15) && xwd pl.toNat (.classLink (xowf k) ix (xRXf c.toNat))
    | [_, e, pl, ic] => decide (0 ≤ e ∧ e < 4) && decide (xowf k = RX7) && decide (ic.toNat = xIC e.toNat) && xwd pl.toNat (.classLink (xowf k) ix (xEX e.toNat)) && xdec k (pc + 3) .dup 1 && xdec k (pc + 4) (.invokespecial ic.toNat) 3 && xdec k (pc + 7) .athrow 1
    | _ => true
  | .newarray t => match aux with
    | [a] => match t with
      | .int => decide (a = 0)
      | .byte => decide (a = 1)
      | _ => false
    | _ => false
  | .anewarray ix => match aux with
    | [t, pl] => decide (4 ≤ t ∧ t ≤ 8) && xwd pl.toNat (.classLink (xowf k) ix (xan t.toNat))
    | _ => false
  | .checkcast ix => match aux with
    | [z, pl] => decide (z = 0 ∨ z = 1) && xwd pl.toNat (.classLink (xowf k) ix (if z = 0 then "[I" else "[B"))
    | _ => false
  | .invokevirtual ix => match aux with
    | [k', na, kind, pl] => if kind = 22 then decide (k' = 0 ∨ k' = 1) && xwd pl.toNat (.methodLink (xowf k) ix (xcloneN k'.toNat))
      else if kind ≤ 9 then decide (kind = 0 ∨ kind = 3 ∨ kind = 7 ∨ kind = 9) && xkd k'.toNat kind.toNat && decide ((parseMethodDescriptor (xynf k'.toNat).desc).map (fun d => d.parameters.length + 1) = some na.toNat) && (if kind = 3 then xwn pl.toNat (.methodLinkNest (xowf k) ix (xynf k'.toNat) (xho k)) else if kind = 9 then xwd pl.toNat (.methodLink (xowf k) ix (xup k'.toNat)) else xwd pl.toNat (.methodLink (xowf k) ix (xynf k'.toNat)))
      else decide (kind = 99)
    | _ => false
  | .invokespecial ix => match aux with
    | [k', na, kind, pl] => if kind = 20 then xwd pl.toNat (.methodLink (xowf k) ix Lib.objectInit)
      else if kind ≤ 9 then decide (kind = 2 ∨ kind = 5 ∨ (kind = 8 ∧ xowf k = xSB)) && xkd k'.toNat kind.toNat && decide ((parseMethodDescriptor (xynf k'.toNat).desc).map (fun d => d.parameters.length + 1) = some na.toNat) && (if kind = 5 then xwn pl.toNat (.methodLinkNest (xowf k) ix (xynf k'.toNat) (xho k)) else xwd pl.toNat (.methodLink (xowf k) ix (xynf k'.toNat)))
      else decide (kind = 23)
    | _ => false
  | .invokestatic ix => match aux with
    | [k', na, kind, pl] => if kind = 21 then xwd pl.toNat (.methodLink (xowf k) ix arraycopyName)
      else if kind = 24 then xwd pl.toNat (.methodLink (xowf k) ix Lib.Math.max.name)
      else if kind = 25 then xwd pl.toNat (.methodLink (xowf k) ix Lib.Math.min.name)
      else if kind = 26 then xwd pl.toNat (.methodLink (xowf k) ix Lib.MathLoose.max_long.x)
      else if kind = 27 then xwd pl.toNat (.methodLink (xowf k) ix Lib.MathLoose.min_long.x)
      else if kind ≤ 6 then decide (kind = 1 ∨ kind = 4 ∨ kind = 6) && xkd k'.toNat kind.toNat && decide ((parseMethodDescriptor (xynf k'.toNat).desc).map (fun d => d.parameters.length) = some na.toNat) && (if kind = 4 then xwn pl.toNat (.methodLinkNest (xowf k) ix (xynf k'.toNat) (xho k)) else xwd pl.toNat (.methodLink (xowf k) ix (xynf k'.toNat))) && decide ((kind = 6) = (xhn k'.toNat ≠ []))
      else decide (kind = 99)
    | _ => false
  | .lreturn => decide (xrtf k = some .long)
  | .areturn => (match xrtf k with
    | some (.array _) => true
    | some (.object _) => true
    | _ => false)
  | .return_ => decide (xrtf k = none)
  | _ => true
/-- where the row goes on: the next row's pc, the target's -/
def xjp (k i pc : Nat) (ins : Instr) (aux : List Int) : Bool := match ins with
  | .goto off => match xpc k (xtgt aux) with
    | some t => decide ((pc : Int) + off = (t : Int))
    | none => false
  | .ifCond _ off => (match xpc k (xtgt aux) with
    | some t => decide ((pc : Int) + off = (t : Int))
    | none => false) && decide (xpc k (i + 1) = some (pc + 3))
  | .if_icmp _ off => (match xpc k (xtgt aux) with
    | some t => decide ((pc : Int) + off = (t : Int))
    | none => false) && decide (xpc k (i + 1) = some (pc + 3))
  | .ifnull off => (match xpc k (xtgt aux) with
    | some t => decide ((pc : Int) + off = (t : Int))
    | none => false) && decide (xpc k (i + 1) = some (pc + 3))
  | .ifnonnull off => (match xpc k (xtgt aux) with
    | some t => decide ((pc : Int) + off = (t : Int))
    | none => false) && decide (xpc k (i + 1) = some (pc + 3))
  | .tableswitch dflt lo hi offs => (match xpc k (xtgt aux) with
    | some t => decide ((pc : Int) + dflt = (t : Int))
    | none => false) && decide (aux.length = 1 + offs.size) && decide ((hi - lo + 1).toNat = offs.size) && decide (lo ≤ hi) && (List.range offs.size).all (fun j => match aux[1 + j]?, offs[j]? with
      | some t, some off => (match xpc k t.toNat with
        | some tp => decide ((pc : Int) + off = (tp : Int))
        | none => false)
      | _, _ => false)
  | .ireturn | .lreturn | .areturn | .return_ | .athrow => true
  | .new _ => match aux with
    | [_, _, _] => decide (xpc k (i + 1) = some (pc + 3))
    | _ => true
  | ins => decide (xpc k (i + 1) = some (pc + xlen ins))
def xrow (k i : Nat) (q : xI) : Bool := (match q.2.1 with
    | .tableswitch a b c o => (match decode (xbyf k) q.1 with
      | .ok (j, _) => decide (j = .tableswitch a b c o)
      | _ => false)
    | ins => xdec k q.1 ins (xlen ins)) && xck k q.1 q.2.1 q.2.2 && xjp k i q.1 q.2.1 q.2.2
def xrowsF (k : Nat) : Nat → List xI → Bool
  | _, [] => true
  | i, q :: r => xrow k i q && xrowsF k (i + 1) r
def xhw (k : Nat) (h : (Nat × Nat × Nat × Nat) × Nat × Nat × Nat) : Bool := xwd (match h.2.1 with
  | 0 => 585
  | 1 => 1067
  | 2 => 1198
  | _ => 1246) (.classLink (xowf k) h.1.2.2.2 (xEX h.2.1))
def xme (k : Nat) : Bool := xwd (xmpf k).2.1 (.initialized (xynf k).cls) && decide (xmlf k ≤ 41) && decide ((xynf k).cls = xowf k) && Jvm.plainName (xynf k).cls && decide ((xynf k).cls ≠ "java/lang/invoke/MethodHandle" ∧ (xynf k).cls ≠ "java/lang/invoke/VarHandle") && decide (xpc k 0 = some 0) && decide (xowf k = RX7 → xhn k = []) && (if xhn k = [] then xwd (xmpf k).1 (.code (xynf k) (xbyf k) (xmlf k) (xrtf k)) else xwd (xmpf k).1 (.codeWith (xynf k) (xbyf k) (xmlf k) (xrtf k) ((xhn k).map (·.1))) && (xhn k).all (fun h => decide (h.2.1 < 4) && decide (h.1.2.2.2 ≠ 0) && xhw k h && (match (cds.getD k []).find? (fun q => decide (q.1 = h.1.2.2.1)) with
      | some q => (decide (q.2.1 = .astore h.2.2.2) && decide (xpc k h.2.2.1 = some (q.1 + 2)) || (match q.2.1 with
        | .astore_n n => decide (n.val = h.2.2.2) && decide (xpc k h.2.2.1 = some (q.1 + 1))
        | _ => false)) && xdec k q.1 q.2.1 (xlen q.2.1) && decide (h.2.2.2 < xmlf k)
      | none => false)))

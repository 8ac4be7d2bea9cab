/-! THE TABLES HOLD: what part 02 says of each instruction is what the bytes decode to and what the Statement's words link -/
def zU : List Cond := lw_tbl.filter goodWord
theorem zU_mem {i : Nat} {w : Cond} (h : lw_tbl[i]? = some w) (hg : goodWord w = true) : w ∈ zU := List.mem_filter.mpr ⟨List.mem_of_getElem? h, hg⟩
theorem zU_good : ∀ w ∈ zU, (w.onTables && w.keeps) = true ∨ ∃ ty, w = .arrayClass ty := fun w h => good_of_word (List.mem_filter.mp h).2
def zR (ci : Nat) : String := match ci with
  | 0 => RX0 | 1 => RX1 | 2 => RX2 | 3 => RX3 | 4 => RX4 | 5 => RX5 | 6 => RX6 | 7 => RX7 | 8 => RX8 | _ => RX9
def zT (ci : Nat) : u_T := match ci with
  | 0 => TX0 | 1 => TX1 | 2 => TX2 | 3 => TX3 | 4 => TX4 | 5 => TX5 | 6 => TX6 | 7 => TX7 | 8 => TX8 | _ => TX9
def zhost : String := "SchoolPlay"
def zlib (i : Nat) : MethodName := match i with
  | 1000 => Lib.Math.max.name | 1001 => Lib.Math.min.name | 1002 => Lib.Math.abs.name | 1003 => objectInit | 1004 => yJ0_length_8abf5 | _ => yJ0_charAt_5068e
def znm (i : Nat) : MethodName := match zmt[i]? with
  | some M => M.1
  | none => zlib i
/-- what the table says of an instruction is true of it -/
def zok (own nm : String) (pc : Nat) (q : zI) : Bool := match q.1 with
  | .iconst n => decide (Int32.ofInt n = q.2.2.1.1)
  | .bipush n => decide ((Int8.ofInt n).toInt32 = q.2.2.1.1)
  | .sipush n => decide ((Int16.ofInt n).toInt32 = q.2.2.1.1)
  | .lconst n => decide (Int64.ofNat (n : Nat) = q.2.2.1.2)
  | .ldc i => match q.2.1.2.2.1 with
    | 0 => decide (lw_tbl[q.2.1.2.2.2]? = some (.constant own i q.2.2.1.1))
    | _ => decide (own = RX5) && (match q.2.1.2.1 with
      | 0 => decide (i = 51) | 1 => decide (i = 60) | 2 => decide (i = 65) | 3 => decide (i = 70) | _ => false)
  | .ldc_w i => decide (lw_tbl[q.2.1.2.2.2]? = some (.constant own i q.2.2.1.1))
  | .ldc2_w i => decide (lw_tbl[q.2.1.2.2.2]? = some (.constantLong own i q.2.2.1.2))
  | .iload_n k | .lload_n k | .aload_n k | .istore_n k | .astore_n k | .lstore_n k => decide ((k : Nat) = q.2.1.2.1)
  | .iload k | .lload k | .aload k | .istore k | .lstore k => decide (k = q.2.1.2.1)
  | .iinc k n => decide (k = q.2.1.2.1) && decide (Int32.ofInt n = q.2.2.1.1)
  | .ifCond _ off | .if_icmp _ off | .goto off => decide ((pc : Int) + off = (q.2.1.2.1 : Int))
  | .tableswitch dflt lo hi offs => decide ((pc : Int) + dflt = (q.2.1.2.1 : Int)) && decide (q.2.2.1.1.toInt = lo) && decide (0 ≤ lo) && decide (hi < 1000) && decide ((q.2.2.2.length : Int) = hi - lo + 1) && decide (offs.toList.map (fun x => (pc : Int) + x) = q.2.2.2.map (fun (x : Nat) => (x : Int)))
  | .getfield i => decide (lw_tbl[q.2.1.2.2.2]? = some (.fieldLink own i (zT q.2.1.2.1 q.2.1.2.2.1).1 (zT q.2.1.2.1 q.2.1.2.2.1).2.1 (zT q.2.1.2.1 q.2.1.2.2.1).2.2.1)) && decide (q.2.1.2.2.1 < zNf q.2.1.2.1) && decide (q.2.1.2.1 < 10)
  | .putfield i => decide (lw_tbl[q.2.1.2.2.2]? = some (.fieldLink own i (zT q.2.1.2.1 q.2.1.2.2.1).1 (zT q.2.1.2.1 q.2.1.2.2.1).2.1 (zT q.2.1.2.1 q.2.1.2.2.1).2.2.1)) && decide (q.2.1.2.2.1 < zNf q.2.1.2.1) && decide (q.2.1.2.1 < 10) &&
      (decide ((zT q.2.1.2.1 q.2.1.2.2.1).2.2.2 = false) || (decide ((zT q.2.1.2.1 q.2.1.2.2.1).2.2.2 = true) && decide (nm = "<init>") && decide ((zT q.2.1.2.1 q.2.1.2.2.1).1 = own)))
  | .newarray t => match t with
    | .int => decide (q.2.1.2.1 = 0) | .boolean => decide (q.2.1.2.1 = 1) | .long => decide (q.2.1.2.1 = 2) | _ => false
  | .anewarray i => decide (lw_tbl[q.2.1.2.2.2]? = some (.classLink own i RX7))
  | .multianewarray i k => decide (lw_tbl[q.2.1.2.2.2]? = some (.classLink own i "[[I")) && decide (k = 2)
  | .new i => decide (lw_tbl[q.2.1.2.2.2]? = some (.classLink own i (zR q.2.1.2.1))) && decide (q.2.1.2.1 < 10)
  | .invokestatic i => (match q.2.2.2[0]? with
    | some 0 => decide (lw_tbl[q.2.1.2.2.2]? = some (.methodLink own i (znm q.2.1.2.1)))
    | some _ => decide (lw_tbl[q.2.1.2.2.2]? = some (.methodLinkNest own i (znm q.2.1.2.1) zhost)) && decide (q.2.1.2.1 < 1000)
    | none => false) && decide ((parseMethodDescriptor (znm q.2.1.2.1).desc).map (fun x => x.parameters.length) = some q.2.1.2.2.1) && decide (q.2.1.2.1 < 1003)
  | .invokespecial i => (match q.2.2.2[0]? with
    | some 0 => decide (lw_tbl[q.2.1.2.2.2]? = some (.methodLink own i (znm q.2.1.2.1)))
    | some _ => decide (lw_tbl[q.2.1.2.2.2]? = some (.methodLinkNest own i (znm q.2.1.2.1) zhost)) && decide (q.2.1.2.1 < 1000)
    | none => false) && decide ((parseMethodDescriptor (znm q.2.1.2.1).desc).map (fun x => x.parameters.length + 1) = some q.2.1.2.2.1) && decide ((znm q.2.1.2.1).name = "<init>") && decide (q.2.1.2.1 < 1000 ∨ q.2.1.2.1 = 1003)
  | .invokevirtual i => decide (q.2.2.2[0]? = some 0) && decide (lw_tbl[q.2.1.2.2.2]? = some (.methodLink own i (znm q.2.1.2.1))) && decide ((parseMethodDescriptor (znm q.2.1.2.1).desc).map (fun x => x.parameters.length + 1) = some q.2.1.2.2.1) && decide (q.2.1.2.1 < 1000 ∨ q.2.1.2.1 = 1004 ∨ q.2.1.2.1 = 1005) &&
      (match q.2.2.2[1]? with
      | some ci => decide (q.2.1.2.1 < 1000 → (ci < 10 ∧ (znm q.2.1.2.1).cls = zR ci))
      | none => false)
  | _ => true
def zokE (M : zM) (x : Nat × zI) : Bool := decide (decode M.2.1 x.1 = .ok (x.2.1, x.2.2.1.1)) && zok M.1.cls M.1.name x.1 x.2
/-- a method's words by their places in the tables: its code, how it is called (0 static, 1 a constructor, 2 by its class), static or instance, which one is selected, its class initialised -/
def zmx : List (Nat × Nat × Nat × Nat × Nat) := [(319, 1, 318, 0, 99), (701, 2, 699, 700, 99), (925, 2, 923, 924, 99), (929, 2, 927, 928, 99), (735, 2, 733, 734, 99), (705, 2, 704, 13, 99), (715, 2, 714, 14, 99), (719, 2, 718, 15, 99), (723, 2, 722, 16, 99), (727, 2, 726, 17, 99), (739, 2, 738, 18, 99), (417, 1, 416, 0, 102), (865, 2, 863, 864, 102), (888, 2, 886, 887, 102), (880, 2, 878, 879, 102), (906, 2, 904, 905, 102), (911, 2, 910, 27, 102), (916, 2, 915, 28, 102), (871, 2, 870, 24, 102), (884, 2, 883, 26, 102), (875, 2, 874, 25, 102), (273, 1, 272, 0, 97), (895, 2, 893, 894, 97), (1005, 2, 1003, 1004, 97), (1017, 2, 1015, 1016, 97), (1061, 2, 1059, 1060, 97), (1009, 2, 1008, 33, 97), (898, 0, 897, 0, 97), (445, 1, 444, 0, 103), (940, 2, 938, 939, 103), (949, 2, 947, 948, 103), (963, 2, 961, 962, 103), (945, 2, 944, 29, 103), (953, 2, 952, 30, 103), (969, 2, 968, 31, 103), (973, 2, 972, 32, 103), (367, 1, 366, 0, 101), (830, 2, 828, 829, 101), (834, 2, 833, 20, 101), (843, 2, 842, 21, 101), (847, 2, 846, 22, 101), (851, 2, 850, 23, 101), (288, 1, 287, 0, 98), (520, 2, 518, 519, 98), (549, 2, 548, 4, 98), (606, 2, 605, 6, 98), (623, 2, 622, 10, 98), (628, 2, 627, 11, 98), (633, 2, 632, 12, 98), (610, 2, 609, 7, 98), (614, 2, 613, 8, 98), (618, 2, 617, 9, 98), (554, 2, 553, 5, 98), (531, 2, 530, 1, 98), (538, 2, 537, 2, 98), (545, 2, 544, 3, 98), (534, 0, 533, 0, 98), (541, 0, 540, 0, 98), (128, 1, 127, 0, 96), (527, 2, 525, 526, 96), (653, 2, 651, 652, 96), (645, 2, 643, 644, 96), (641, 2, 639, 640, 96), (693, 2, 691, 692, 96), (689, 2, 687, 688, 96), (637, 2, 635, 636, 96), (668, 2, 666, 667, 96), (685, 2, 683, 684, 96), (681, 2, 679, 680, 96), (709, 2, 707, 708, 96), (817, 2, 815, 816, 96), (1052, 2, 1050, 1051, 96), (1057, 2, 1055, 1056, 96), (122, 1, 121, 0, 95), (1026, 2, 1024, 1025, 95), (508, 2, 506, 507, 95), (649, 2, 647, 648, 95), (764, 2, 762, 763, 95), (789, 2, 787, 788, 95), (775, 2, 773, 774, 95), (813, 2, 811, 812, 95), (809, 2, 807, 808, 95), (997, 2, 995, 996, 95), (1047, 2, 1045, 1046, 95), (114, 1, 113, 0, 94), (500, 2, 498, 499, 94), (512, 2, 510, 511, 94), (516, 2, 514, 515, 94), (658, 2, 656, 657, 94), (662, 2, 660, 661, 94), (677, 2, 675, 676, 94), (697, 2, 695, 696, 94), (731, 2, 729, 730, 94), (744, 2, 742, 743, 94), (752, 2, 750, 751, 94), (756, 2, 754, 755, 94), (785, 2, 783, 784, 94), (797, 2, 795, 796, 94), (801, 2, 799, 800, 94), (805, 2, 803, 804, 94), (822, 2, 820, 821, 94), (826, 2, 824, 825, 94), (857, 2, 855, 856, 94), (861, 2, 859, 860, 94), (902, 2, 900, 901, 94), (921, 2, 919, 920, 94), (933, 2, 931, 932, 94), (959, 2, 957, 958, 94), (977, 2, 975, 976, 94), (985, 2, 983, 984, 94), (989, 2, 987, 988, 94), (993, 2, 991, 992, 94), (1001, 2, 999, 1000, 94), (1013, 2, 1011, 1012, 94), (1022, 2, 1020, 1021, 94), (1030, 2, 1028, 1029, 94), (1034, 2, 1032, 1033, 94), (1038, 2, 1036, 1037, 94), (1042, 2, 1040, 1041, 94), (504, 2, 503, 0, 94), (748, 2, 747, 19, 94), (760, 0, 759, 0, 94), (936, 0, 935, 0, 94), (980, 0, 979, 0, 94), (770, 0, 769, 0, 94), (793, 0, 792, 0, 94), (891, 0, 890, 0, 94), (1069, 1, 1068, 0, 104), (1079, 0, 1078, 0, 104), (1266, 0, 1265, 0, 104), (1165, 2, 1164, 37, 104), (1161, 2, 1160, 36, 104), (1074, 2, 1073, 34, 104), (1085, 2, 1084, 35, 104), (1156, 2, 1154, 1155, 104), (1170, 2, 1168, 1169, 104), (1182, 2, 1181, 39, 104), (1178, 2, 1177, 38, 104), (1198, 2, 1197, 42, 104), (1206, 2, 1205, 44, 104), (1190, 2, 1189, 40, 104), (1210, 2, 1209, 45, 104), (1202, 2, 1201, 43, 104), (1214, 2, 1213, 46, 104), (1218, 2, 1217, 47, 104), (1222, 2, 1221, 48, 104), (1194, 2, 1193, 41, 104), (1174, 2, 1172, 1173, 104), (1226, 2, 1224, 1225, 104), (1239, 2, 1238, 50, 104), (1235, 2, 1234, 49, 104), (1247, 2, 1246, 52, 104), (1335, 2, 1334, 67, 104), (1251, 2, 1250, 53, 104), (1243, 2, 1242, 51, 104), (1231, 2, 1229, 1230, 104), (1263, 2, 1262, 55, 104), (1259, 2, 1258, 54, 104), (1255, 2, 1253, 1254, 104), (1278, 2, 1277, 57, 104), (1286, 2, 1285, 59, 104), (1282, 2, 1281, 58, 104), (1290, 2, 1289, 60, 104), (1294, 2, 1293, 61, 104), (1298, 2, 1297, 62, 104), (1274, 2, 1273, 56, 104), (1270, 2, 1268, 1269, 104), (1302, 2, 1300, 1301, 104), (1310, 2, 1309, 63, 104), (1306, 2, 1304, 1305, 104), (1314, 2, 1312, 1313, 104), (1322, 2, 1321, 64, 104), (1343, 2, 1342, 69, 104), (1339, 2, 1338, 68, 104), (1331, 2, 1330, 66, 104), (1355, 2, 1354, 71, 104), (1327, 2, 1326, 65, 104), (1347, 2, 1346, 70, 104), (1318, 2, 1316, 1317, 104), (1351, 2, 1349, 1350, 104), (1359, 2, 1357, 1358, 104), (1363, 2, 1361, 1362, 104), (1379, 2, 1378, 74, 104), (1375, 2, 1374, 73, 104), (1371, 2, 1370, 72, 104), (1367, 2, 1365, 1366, 104), (1383, 2, 1381, 1382, 104), (1393, 2, 1392, 75, 104), (1387, 2, 1385, 1386, 104), (1397, 2, 1395, 1396, 104), (1412, 0, 1411, 0, 104), (1409, 2, 1408, 77, 104), (1416, 2, 1415, 78, 104), (1405, 2, 1404, 76, 104), (1421, 2, 1420, 79, 104), (1401, 2, 1399, 1400, 104), (1429, 2, 1428, 80, 104), (1425, 2, 1423, 1424, 104), (1433, 2, 1431, 1432, 104), (1441, 2, 1440, 81, 104), (1453, 2, 1452, 84, 104), (1449, 2, 1448, 83, 104), (1445, 2, 1444, 82, 104), (1437, 2, 1435, 1436, 104), (1465, 2, 1464, 86, 104), (1461, 2, 1460, 85, 104), (1457, 2, 1455, 1456, 104), (1474, 0, 1473, 0, 104), (1469, 2, 1467, 1468, 104), (1478, 2, 1476, 1477, 104), (1482, 2, 1480, 1481, 104), (1491, 2, 1490, 87, 104), (1486, 2, 1484, 1485, 104), (1503, 0, 1502, 0, 104), (1511, 0, 1510, 0, 104), (1500, 2, 1499, 88, 104), (1496, 2, 1494, 1495, 104), (1508, 2, 1506, 1507, 104), (1519, 2, 1518, 89, 104), (1515, 2, 1513, 1514, 104), (1523, 2, 1521, 1522, 104), (1527, 2, 1525, 1526, 104), (1535, 2, 1534, 90, 104), (1531, 2, 1529, 1530, 104), (1544, 2, 1543, 91, 104), (1549, 2, 1548, 92, 104), (1539, 2, 1537, 1538, 104), (778, 0, 777, 0, 109), (0, 0, 0, 0, 0)]
def zokM (M : zM) (x : Nat × Nat × Nat × Nat × Nat) : Bool := decide (lw_tbl[x.1]? = some (.code M.1 M.2.1 M.2.2.1 M.2.2.2.1)) && decide (M.2.2.1 ≤ 20) && plainName M.1.cls && decide (lw_tbl[x.2.2.2.2]? = some (.initialized M.1.cls)) &&
  decide (M.1.cls ≠ "java/lang/invoke/MethodHandle" ∧ M.1.cls ≠ "java/lang/invoke/VarHandle") &&
  (match x.2.1 with
  | 0 => decide (lw_tbl[x.2.2.1]? = some (.static M.1))
  | 1 => decide (lw_tbl[x.2.2.1]? = some (.instanceMethod M.1)) && decide (M.1.name = "<init>") && decide (M.2.2.2.1 = none)
  | _ => decide (lw_tbl[x.2.2.1]? = some (.instanceMethod M.1)) && decide (lw_tbl[x.2.2.2.1]? = some (.selects M.1.cls M.1 M.1)))
set_option maxRecDepth 100000 in
theorem zk_X0_init : ∀ x ∈ zi_X0_init, zokE zm_X0_init x = true := List.all_eq_true.mp (by decide +kernel)
set_option maxRecDepth 100000 in
theorem zk_X0_findBest : ∀ x ∈ zi_X0_findBest, zokE zm_X0_findBest x = true := List.all_eq_true.mp (by decide +kernel)
set_option maxRecDepth 100000 in
theorem zk_X0_findWithout : ∀ x ∈ zi_X0_findWithout, zokE zm_X0_findWithout x = true := List.all_eq_true.mp (by decide +kernel)
set_option maxRecDepth 100000 in
theorem zk_X0_changes : ∀ x ∈ zi_X0_changes, zokE zm_X0_changes x = true := List.all_eq_true.mp (by decide +kernel)
set_option maxRecDepth 100000 in
theorem zk_X0_fewestPlayers : ∀ x ∈ zi_X0_fewestPlayers, zokE zm_X0_fewestPlayers x = true := List.all_eq_true.mp (by decide +kernel)
set_option maxRecDepth 100000 in
theorem zk_X0_prepare : ∀ x ∈ zi_X0_prepare, zokE zm_X0_prepare x = true := List.all_eq_true.mp (by decide +kernel)
set_option maxRecDepth 100000 in
theorem zk_X0_search : ∀ x ∈ zi_X0_search, zokE zm_X0_search x = true := List.all_eq_true.mp (by decide +kernel)
set_option maxRecDepth 100000 in
theorem zk_X0_mostPoints : ∀ x ∈ zi_X0_mostPoints, zokE zm_X0_mostPoints x = true := List.all_eq_true.mp (by decide +kernel)
set_option maxRecDepth 100000 in
theorem zk_X0_castFrom : ∀ x ∈ zi_X0_castFrom, zokE zm_X0_castFrom x = true := List.all_eq_true.mp (by decide +kernel)
set_option maxRecDepth 100000 in
theorem zk_X0_keep : ∀ x ∈ zi_X0_keep, zokE zm_X0_keep x = true := List.all_eq_true.mp (by decide +kernel)
set_option maxRecDepth 100000 in
theorem zk_X0_playersFrom : ∀ x ∈ zi_X0_playersFrom, zokE zm_X0_playersFrom x = true := List.all_eq_true.mp (by decide +kernel)
set_option maxRecDepth 100000 in
theorem zk_X1_init : ∀ x ∈ zi_X1_init, zokE zm_X1_init x = true := List.all_eq_true.mp (by decide +kernel)
set_option maxRecDepth 100000 in
theorem zk_X1_prepare : ∀ x ∈ zi_X1_prepare, zokE zm_X1_prepare x = true := List.all_eq_true.mp (by decide +kernel)
set_option maxRecDepth 100000 in
theorem zk_X1_waysInAll : ∀ x ∈ zi_X1_waysInAll, zokE zm_X1_waysInAll x = true := List.all_eq_true.mp (by decide +kernel)
set_option maxRecDepth 100000 in
theorem zk_X1_waysItGoes : ∀ x ∈ zi_X1_waysItGoes, zokE zm_X1_waysItGoes x = true := List.all_eq_true.mp (by decide +kernel)
set_option maxRecDepth 100000 in
theorem zk_X1_nextBehind : ∀ x ∈ zi_X1_nextBehind, zokE zm_X1_nextBehind x = true := List.all_eq_true.mp (by decide +kernel)
set_option maxRecDepth 100000 in
theorem zk_X1_waysWith : ∀ x ∈ zi_X1_waysWith, zokE zm_X1_waysWith x = true := List.all_eq_true.mp (by decide +kernel)
set_option maxRecDepth 100000 in
theorem zk_X1_hoursOf : ∀ x ∈ zi_X1_hoursOf, zokE zm_X1_hoursOf x = true := List.all_eq_true.mp (by decide +kernel)
set_option maxRecDepth 100000 in
theorem zk_X1_waysOf : ∀ x ∈ zi_X1_waysOf, zokE zm_X1_waysOf x = true := List.all_eq_true.mp (by decide +kernel)
set_option maxRecDepth 100000 in
theorem zk_X1_goes : ∀ x ∈ zi_X1_goes, zokE zm_X1_goes x = true := List.all_eq_true.mp (by decide +kernel)
set_option maxRecDepth 100000 in
theorem zk_X1_isWell : ∀ x ∈ zi_X1_isWell, zokE zm_X1_isWell x = true := List.all_eq_true.mp (by decide +kernel)
set_option maxRecDepth 100000 in
theorem zk_X2_init : ∀ x ∈ zi_X2_init, zokE zm_X2_init x = true := List.all_eq_true.mp (by decide +kernel)
set_option maxRecDepth 100000 in
theorem zk_X2_become : ∀ x ∈ zi_X2_become, zokE zm_X2_become x = true := List.all_eq_true.mp (by decide +kernel)
set_option maxRecDepth 100000 in
theorem zk_X2_limbs : ∀ x ∈ zi_X2_limbs, zokE zm_X2_limbs x = true := List.all_eq_true.mp (by decide +kernel)
set_option maxRecDepth 100000 in
theorem zk_X2_limbAt : ∀ x ∈ zi_X2_limbAt, zokE zm_X2_limbAt x = true := List.all_eq_true.mp (by decide +kernel)
set_option maxRecDepth 100000 in
theorem zk_X2_mix : ∀ x ∈ zi_X2_mix, zokE zm_X2_mix x = true := List.all_eq_true.mp (by decide +kernel)
set_option maxRecDepth 100000 in
theorem zk_X2_side : ∀ x ∈ zi_X2_side, zokE zm_X2_side x = true := List.all_eq_true.mp (by decide +kernel)
set_option maxRecDepth 100000 in
theorem zk_X2_common : ∀ x ∈ zi_X2_common, zokE zm_X2_common x = true := List.all_eq_true.mp (by decide +kernel)
set_option maxRecDepth 100000 in
theorem zk_X3_init : ∀ x ∈ zi_X3_init, zokE zm_X3_init x = true := List.all_eq_true.mp (by decide +kernel)
set_option maxRecDepth 100000 in
theorem zk_X3_prepare : ∀ x ∈ zi_X3_prepare, zokE zm_X3_prepare x = true := List.all_eq_true.mp (by decide +kernel)
set_option maxRecDepth 100000 in
theorem zk_X3_run : ∀ x ∈ zi_X3_run, zokE zm_X3_run x = true := List.all_eq_true.mp (by decide +kernel)
set_option maxRecDepth 100000 in
theorem zk_X3_leastGainer : ∀ x ∈ zi_X3_leastGainer, zokE zm_X3_leastGainer x = true := List.all_eq_true.mp (by decide +kernel)
set_option maxRecDepth 100000 in
theorem zk_X3_tellTruth : ∀ x ∈ zi_X3_tellTruth, zokE zm_X3_tellTruth x = true := List.all_eq_true.mp (by decide +kernel)
set_option maxRecDepth 100000 in
theorem zk_X3_offer : ∀ x ∈ zi_X3_offer, zokE zm_X3_offer x = true := List.all_eq_true.mp (by decide +kernel)
set_option maxRecDepth 100000 in
theorem zk_X3_gainsByAnother : ∀ x ∈ zi_X3_gainsByAnother, zokE zm_X3_gainsByAnother x = true := List.all_eq_true.mp (by decide +kernel)
set_option maxRecDepth 100000 in
theorem zk_X3_tellOnly : ∀ x ∈ zi_X3_tellOnly, zokE zm_X3_tellOnly x = true := List.all_eq_true.mp (by decide +kernel)
set_option maxRecDepth 100000 in
theorem zk_X4_init : ∀ x ∈ zi_X4_init, zokE zm_X4_init x = true := List.all_eq_true.mp (by decide +kernel)
set_option maxRecDepth 100000 in
theorem zk_X4_find : ∀ x ∈ zi_X4_find, zokE zm_X4_find x = true := List.all_eq_true.mp (by decide +kernel)
set_option maxRecDepth 100000 in
theorem zk_X4_prepare : ∀ x ∈ zi_X4_prepare, zokE zm_X4_prepare x = true := List.all_eq_true.mp (by decide +kernel)
set_option maxRecDepth 100000 in
theorem zk_X4_planFrom : ∀ x ∈ zi_X4_planFrom, zokE zm_X4_planFrom x = true := List.all_eq_true.mp (by decide +kernel)
set_option maxRecDepth 100000 in
theorem zk_X4_leastKnown : ∀ x ∈ zi_X4_leastKnown, zokE zm_X4_leastKnown x = true := List.all_eq_true.mp (by decide +kernel)
set_option maxRecDepth 100000 in
theorem zk_X4_compare : ∀ x ∈ zi_X4_compare, zokE zm_X4_compare x = true := List.all_eq_true.mp (by decide +kernel)
set_option maxRecDepth 100000 in
theorem zk_X5_init : ∀ x ∈ zi_X5_init, zokE zm_X5_init x = true := List.all_eq_true.mp (by decide +kernel)
set_option maxRecDepth 100000 in
theorem zk_X5_readText : ∀ x ∈ zi_X5_readText, zokE zm_X5_readText x = true := List.all_eq_true.mp (by decide +kernel)
set_option maxRecDepth 100000 in
theorem zk_X5_item : ∀ x ∈ zi_X5_item, zokE zm_X5_item x = true := List.all_eq_true.mp (by decide +kernel)
set_option maxRecDepth 100000 in
theorem zk_X5_partItem : ∀ x ∈ zi_X5_partItem, zokE zm_X5_partItem x = true := List.all_eq_true.mp (by decide +kernel)
set_option maxRecDepth 100000 in
theorem zk_X5_childItem : ∀ x ∈ zi_X5_childItem, zokE zm_X5_childItem x = true := List.all_eq_true.mp (by decide +kernel)
set_option maxRecDepth 100000 in
theorem zk_X5_sceneItem : ∀ x ∈ zi_X5_sceneItem, zokE zm_X5_sceneItem x = true := List.all_eq_true.mp (by decide +kernel)
set_option maxRecDepth 100000 in
theorem zk_X5_wishItem : ∀ x ∈ zi_X5_wishItem, zokE zm_X5_wishItem x = true := List.all_eq_true.mp (by decide +kernel)
set_option maxRecDepth 100000 in
theorem zk_X5_number : ∀ x ∈ zi_X5_number, zokE zm_X5_number x = true := List.all_eq_true.mp (by decide +kernel)
set_option maxRecDepth 100000 in
theorem zk_X5_isNumber : ∀ x ∈ zi_X5_isNumber, zokE zm_X5_isNumber x = true := List.all_eq_true.mp (by decide +kernel)
set_option maxRecDepth 100000 in
theorem zk_X5_stop : ∀ x ∈ zi_X5_stop, zokE zm_X5_stop x = true := List.all_eq_true.mp (by decide +kernel)
set_option maxRecDepth 100000 in
theorem zk_X5_isWord : ∀ x ∈ zi_X5_isWord, zokE zm_X5_isWord x = true := List.all_eq_true.mp (by decide +kernel)
set_option maxRecDepth 100000 in
theorem zk_X5_step : ∀ x ∈ zi_X5_step, zokE zm_X5_step x = true := List.all_eq_true.mp (by decide +kernel)
set_option maxRecDepth 100000 in
theorem zk_X5_passLetters : ∀ x ∈ zi_X5_passLetters, zokE zm_X5_passLetters x = true := List.all_eq_true.mp (by decide +kernel)
set_option maxRecDepth 100000 in
theorem zk_X5_passFigures : ∀ x ∈ zi_X5_passFigures, zokE zm_X5_passFigures x = true := List.all_eq_true.mp (by decide +kernel)
set_option maxRecDepth 100000 in
theorem zk_X5_isLetter : ∀ x ∈ zi_X5_isLetter, zokE zm_X5_isLetter x = true := List.all_eq_true.mp (by decide +kernel)
set_option maxRecDepth 100000 in
theorem zk_X5_isFigure : ∀ x ∈ zi_X5_isFigure, zokE zm_X5_isFigure x = true := List.all_eq_true.mp (by decide +kernel)
set_option maxRecDepth 100000 in
theorem zk_X6_init : ∀ x ∈ zi_X6_init, zokE zm_X6_init x = true := List.all_eq_true.mp (by decide +kernel)
set_option maxRecDepth 100000 in
theorem zk_X6_empty : ∀ x ∈ zi_X6_empty, zokE zm_X6_empty x = true := List.all_eq_true.mp (by decide +kernel)
set_option maxRecDepth 100000 in
theorem zk_X6_copyOf : ∀ x ∈ zi_X6_copyOf, zokE zm_X6_copyOf x = true := List.all_eq_true.mp (by decide +kernel)
set_option maxRecDepth 100000 in
theorem zk_X6_hasPart : ∀ x ∈ zi_X6_hasPart, zokE zm_X6_hasPart x = true := List.all_eq_true.mp (by decide +kernel)
set_option maxRecDepth 100000 in
theorem zk_X6_hasChild : ∀ x ∈ zi_X6_hasChild, zokE zm_X6_hasChild x = true := List.all_eq_true.mp (by decide +kernel)
set_option maxRecDepth 100000 in
theorem zk_X6_hasScene : ∀ x ∈ zi_X6_hasScene, zokE zm_X6_hasScene x = true := List.all_eq_true.mp (by decide +kernel)
set_option maxRecDepth 100000 in
theorem zk_X6_plays : ∀ x ∈ zi_X6_plays, zokE zm_X6_plays x = true := List.all_eq_true.mp (by decide +kernel)
set_option maxRecDepth 100000 in
theorem zk_X6_rankOf : ∀ x ∈ zi_X6_rankOf, zokE zm_X6_rankOf x = true := List.all_eq_true.mp (by decide +kernel)
set_option maxRecDepth 100000 in
theorem zk_X6_fitOf : ∀ x ∈ zi_X6_fitOf, zokE zm_X6_fitOf x = true := List.all_eq_true.mp (by decide +kernel)
set_option maxRecDepth 100000 in
theorem zk_X6_scenesOf : ∀ x ∈ zi_X6_scenesOf, zokE zm_X6_scenesOf x = true := List.all_eq_true.mp (by decide +kernel)
set_option maxRecDepth 100000 in
theorem zk_X6_clashing : ∀ x ∈ zi_X6_clashing, zokE zm_X6_clashing x = true := List.all_eq_true.mp (by decide +kernel)
set_option maxRecDepth 100000 in
theorem zk_X6_fillClashes : ∀ x ∈ zi_X6_fillClashes, zokE zm_X6_fillClashes x = true := List.all_eq_true.mp (by decide +kernel)
set_option maxRecDepth 100000 in
theorem zk_X6_minutesOf : ∀ x ∈ zi_X6_minutesOf, zokE zm_X6_minutesOf x = true := List.all_eq_true.mp (by decide +kernel)
set_option maxRecDepth 100000 in
theorem zk_X6_mixChildren : ∀ x ∈ zi_X6_mixChildren, zokE zm_X6_mixChildren x = true := List.all_eq_true.mp (by decide +kernel)
set_option maxRecDepth 100000 in
theorem zk_X6_mixScenes : ∀ x ∈ zi_X6_mixScenes, zokE zm_X6_mixScenes x = true := List.all_eq_true.mp (by decide +kernel)
set_option maxRecDepth 100000 in
theorem zk_X7_init : ∀ x ∈ zi_X7_init, zokE zm_X7_init x = true := List.all_eq_true.mp (by decide +kernel)
set_option maxRecDepth 100000 in
theorem zk_X7_copyOf : ∀ x ∈ zi_X7_copyOf, zokE zm_X7_copyOf x = true := List.all_eq_true.mp (by decide +kernel)
set_option maxRecDepth 100000 in
theorem zk_X7_addByte : ∀ x ∈ zi_X7_addByte, zokE zm_X7_addByte x = true := List.all_eq_true.mp (by decide +kernel)
set_option maxRecDepth 100000 in
theorem zk_X7_begin : ∀ x ∈ zi_X7_begin, zokE zm_X7_begin x = true := List.all_eq_true.mp (by decide +kernel)
set_option maxRecDepth 100000 in
theorem zk_X7_learned : ∀ x ∈ zi_X7_learned, zokE zm_X7_learned x = true := List.all_eq_true.mp (by decide +kernel)
set_option maxRecDepth 100000 in
theorem zk_X7_fading : ∀ x ∈ zi_X7_fading, zokE zm_X7_fading x = true := List.all_eq_true.mp (by decide +kernel)
set_option maxRecDepth 100000 in
theorem zk_X7_sitting : ∀ x ∈ zi_X7_sitting, zokE zm_X7_sitting x = true := List.all_eq_true.mp (by decide +kernel)
set_option maxRecDepth 100000 in
theorem zk_X7_sceneSlips : ∀ x ∈ zi_X7_sceneSlips, zokE zm_X7_sceneSlips x = true := List.all_eq_true.mp (by decide +kernel)
set_option maxRecDepth 100000 in
theorem zk_X7_allSlips : ∀ x ∈ zi_X7_allSlips, zokE zm_X7_allSlips x = true := List.all_eq_true.mp (by decide +kernel)
set_option maxRecDepth 100000 in
theorem zk_X7_leaning : ∀ x ∈ zi_X7_leaning, zokE zm_X7_leaning x = true := List.all_eq_true.mp (by decide +kernel)
set_option maxRecDepth 100000 in
theorem zk_X7_mix : ∀ x ∈ zi_X7_mix, zokE zm_X7_mix x = true := List.all_eq_true.mp (by decide +kernel)
set_option maxRecDepth 100000 in
theorem zk_X8_init : ∀ x ∈ zi_X8_init, zokE zm_X8_init x = true := List.all_eq_true.mp (by decide +kernel)
set_option maxRecDepth 100000 in
theorem zk_X8_type : ∀ x ∈ zi_X8_type, zokE zm_X8_type x = true := List.all_eq_true.mp (by decide +kernel)
set_option maxRecDepth 100000 in
theorem zk_X8_clear : ∀ x ∈ zi_X8_clear, zokE zm_X8_clear x = true := List.all_eq_true.mp (by decide +kernel)
set_option maxRecDepth 100000 in
theorem zk_X8_read : ∀ x ∈ zi_X8_read, zokE zm_X8_read x = true := List.all_eq_true.mp (by decide +kernel)
set_option maxRecDepth 100000 in
theorem zk_X8_put : ∀ x ∈ zi_X8_put, zokE zm_X8_put x = true := List.all_eq_true.mp (by decide +kernel)
set_option maxRecDepth 100000 in
theorem zk_X8_fit : ∀ x ∈ zi_X8_fit, zokE zm_X8_fit x = true := List.all_eq_true.mp (by decide +kernel)
set_option maxRecDepth 100000 in
theorem zk_X8_clash : ∀ x ∈ zi_X8_clash, zokE zm_X8_clash x = true := List.all_eq_true.mp (by decide +kernel)
set_option maxRecDepth 100000 in
theorem zk_X8_best : ∀ x ∈ zi_X8_best, zokE zm_X8_best x = true := List.all_eq_true.mp (by decide +kernel)
set_option maxRecDepth 100000 in
theorem zk_X8_fewest : ∀ x ∈ zi_X8_fewest, zokE zm_X8_fewest x = true := List.all_eq_true.mp (by decide +kernel)
set_option maxRecDepth 100000 in
theorem zk_X8_cast : ∀ x ∈ zi_X8_cast, zokE zm_X8_cast x = true := List.all_eq_true.mp (by decide +kernel)
set_option maxRecDepth 100000 in
theorem zk_X8_takeBest : ∀ x ∈ zi_X8_takeBest, zokE zm_X8_takeBest x = true := List.all_eq_true.mp (by decide +kernel)
set_option maxRecDepth 100000 in
theorem zk_X8_rehearse : ∀ x ∈ zi_X8_rehearse, zokE zm_X8_rehearse x = true := List.all_eq_true.mp (by decide +kernel)
set_option maxRecDepth 100000 in
theorem zk_X8_night : ∀ x ∈ zi_X8_night, zokE zm_X8_night x = true := List.all_eq_true.mp (by decide +kernel)
set_option maxRecDepth 100000 in
theorem zk_X8_known : ∀ x ∈ zi_X8_known, zokE zm_X8_known x = true := List.all_eq_true.mp (by decide +kernel)
set_option maxRecDepth 100000 in
theorem zk_X8_sat : ∀ x ∈ zi_X8_sat, zokE zm_X8_sat x = true := List.all_eq_true.mp (by decide +kernel)
set_option maxRecDepth 100000 in
theorem zk_X8_slips : ∀ x ∈ zi_X8_slips, zokE zm_X8_slips x = true := List.all_eq_true.mp (by decide +kernel)
set_option maxRecDepth 100000 in
theorem zk_X8_cut : ∀ x ∈ zi_X8_cut, zokE zm_X8_cut x = true := List.all_eq_true.mp (by decide +kernel)
set_option maxRecDepth 100000 in
theorem zk_X8_plan : ∀ x ∈ zi_X8_plan, zokE zm_X8_plan x = true := List.all_eq_true.mp (by decide +kernel)
set_option maxRecDepth 100000 in
theorem zk_X8_behind : ∀ x ∈ zi_X8_behind, zokE zm_X8_behind x = true := List.all_eq_true.mp (by decide +kernel)
set_option maxRecDepth 100000 in
theorem zk_X8_odds : ∀ x ∈ zi_X8_odds, zokE zm_X8_odds x = true := List.all_eq_true.mp (by decide +kernel)
set_option maxRecDepth 100000 in
theorem zk_X8_next : ∀ x ∈ zi_X8_next, zokE zm_X8_next x = true := List.all_eq_true.mp (by decide +kernel)
set_option maxRecDepth 100000 in
theorem zk_X8_hot : ∀ x ∈ zi_X8_hot, zokE zm_X8_hot x = true := List.all_eq_true.mp (by decide +kernel)
set_option maxRecDepth 100000 in
theorem zk_X8_lots : ∀ x ∈ zi_X8_lots, zokE zm_X8_lots x = true := List.all_eq_true.mp (by decide +kernel)
set_option maxRecDepth 100000 in
theorem zk_X8_gains : ∀ x ∈ zi_X8_gains, zokE zm_X8_gains x = true := List.all_eq_true.mp (by decide +kernel)
set_option maxRecDepth 100000 in
theorem zk_X8_tried : ∀ x ∈ zi_X8_tried, zokE zm_X8_tried x = true := List.all_eq_true.mp (by decide +kernel)
set_option maxRecDepth 100000 in
theorem zk_X8_year : ∀ x ∈ zi_X8_year, zokE zm_X8_year x = true := List.all_eq_true.mp (by decide +kernel)
set_option maxRecDepth 100000 in
theorem zk_X8_forget : ∀ x ∈ zi_X8_forget, zokE zm_X8_forget x = true := List.all_eq_true.mp (by decide +kernel)
set_option maxRecDepth 100000 in
theorem zk_X8_leans : ∀ x ∈ zi_X8_leans, zokE zm_X8_leans x = true := List.all_eq_true.mp (by decide +kernel)
set_option maxRecDepth 100000 in
theorem zk_X8_sign : ∀ x ∈ zi_X8_sign, zokE zm_X8_sign x = true := List.all_eq_true.mp (by decide +kernel)
set_option maxRecDepth 100000 in
theorem zk_X8_limb : ∀ x ∈ zi_X8_limb, zokE zm_X8_limb x = true := List.all_eq_true.mp (by decide +kernel)
set_option maxRecDepth 100000 in
theorem zk_X8_image : ∀ x ∈ zi_X8_image, zokE zm_X8_image x = true := List.all_eq_true.mp (by decide +kernel)
set_option maxRecDepth 100000 in
theorem zk_X8_from : ∀ x ∈ zi_X8_from, zokE zm_X8_from x = true := List.all_eq_true.mp (by decide +kernel)
set_option maxRecDepth 100000 in
theorem zk_X8_status : ∀ x ∈ zi_X8_status, zokE zm_X8_status x = true := List.all_eq_true.mp (by decide +kernel)
set_option maxRecDepth 100000 in
theorem zk_X8_count : ∀ x ∈ zi_X8_count, zokE zm_X8_count x = true := List.all_eq_true.mp (by decide +kernel)
set_option maxRecDepth 100000 in
theorem zk_X8_digest : ∀ x ∈ zi_X8_digest, zokE zm_X8_digest x = true := List.all_eq_true.mp (by decide +kernel)
set_option maxRecDepth 100000 in
theorem zk_X8_refuse : ∀ x ∈ zi_X8_refuse, zokE zm_X8_refuse x = true := List.all_eq_true.mp (by decide +kernel)
set_option maxRecDepth 100000 in
theorem zk_X8_isChildOrNone : ∀ x ∈ zi_X8_isChildOrNone, zokE zm_X8_isChildOrNone x = true := List.all_eq_true.mp (by decide +kernel)
set_option maxRecDepth 100000 in
theorem zk_X8_isMinutes : ∀ x ∈ zi_X8_isMinutes, zokE zm_X8_isMinutes x = true := List.all_eq_true.mp (by decide +kernel)
set_option maxRecDepth 100000 in
theorem zk_X8_isRule : ∀ x ∈ zi_X8_isRule, zokE zm_X8_isRule x = true := List.all_eq_true.mp (by decide +kernel)
set_option maxRecDepth 100000 in
theorem zk_X8_isUpTo : ∀ x ∈ zi_X8_isUpTo, zokE zm_X8_isUpTo x = true := List.all_eq_true.mp (by decide +kernel)
set_option maxRecDepth 100000 in
theorem zk_X8_knownWith : ∀ x ∈ zi_X8_knownWith, zokE zm_X8_knownWith x = true := List.all_eq_true.mp (by decide +kernel)
set_option maxRecDepth 100000 in
theorem zk_X8_knownAfterNight : ∀ x ∈ zi_X8_knownAfterNight, zokE zm_X8_knownAfterNight x = true := List.all_eq_true.mp (by decide +kernel)
set_option maxRecDepth 100000 in
theorem zk_X8_power : ∀ x ∈ zi_X8_power, zokE zm_X8_power x = true := List.all_eq_true.mp (by decide +kernel)
set_option maxRecDepth 100000 in
theorem zk_J6_bitCount : ∀ x ∈ zi_J6_bitCount, zokE zm_J6_bitCount x = true := List.all_eq_true.mp (by decide +kernel)

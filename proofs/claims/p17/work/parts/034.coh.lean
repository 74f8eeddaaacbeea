/-! ===== the tables hold what the Statement's words say ===== -/
def za_wd : List Cond := lw_tbl.filter goodWord
theorem za_mem {ws : List Cond} (ps : List Nat) (h : ws = ps.filterMap (fun i => lw_tbl[i]?)) (hg : ws.all goodWord = true) : ∀ w ∈ ws, w ∈ za_wd := by
  intro w hw
  have h1 := List.all_eq_true.mp hg w hw
  rw [h] at hw
  obtain ⟨i, -, hi⟩ := List.mem_filterMap.mp hw
  exact List.mem_filter.mpr ⟨List.mem_of_getElem? hi, h1⟩
def za_exn (ex : Nat) : String := match ex with
  | 0 => "java/util/NoSuchElementException"
  | _ => "java/lang/IllegalArgumentException"
def za_wY (j : Nat) (f : MethodName → List Cond) : List Cond := match za_MT j with
  | some Y => f Y.1
  | none => []
def za_wC (ci : Nat) (f : vw_C → List Cond) : List Cond := match vwCl[ci]? with
  | some q => f q
  | none => []
/-- the words that an entry of a constant pool needs -/
def za_need (own : String) (k : Nat) (r : za_row) : List Cond := match r.1 with
  | 0 => za_wC r.2.1 (fun q => [.fieldLink own k (q.2.1 r.2.2.1).1 (q.2.1 r.2.2.1).2.1 (q.2.1 r.2.2.1).2.2.1])
  | 1 => za_wY r.2.1 (fun y => [.methodLink own k y, .instanceMethod y, .selects y.cls y y])
  | 2 => za_wY r.2.1 (fun y => [.methodLink own k y, .static y])
  | 3 => za_wY r.2.1 (fun y => [.methodLink own k y, .instanceMethod y])
  | 4 => [.methodLink own k objectInit, .instanceMethod objectInit, .code objectInit ⟨#[0xb1]⟩ 1 none]
  | 5 => za_wC r.2.1 (fun q => [.classLink own k q.1, .instantiable q.1 q.2.2, .initialized q.1])
  | 6 => [.classLink own k (za_exn r.2.1), .initialized (za_exn r.2.1)]
  | 7 => [.constant own k (Int32.ofInt r.2.2.2)]
  | 8 => [.constantLong own k (Int64.ofInt r.2.2.2)]
  | 11 => za_wY r.2.1 (fun y => [.instanceMethod y, .selects y.cls y y])
  | 12 => za_wY r.2.1 (fun y => [.static y])
  | 13 => za_wY r.2.1 (fun y => [.instanceMethod y])
  | 14 => [.methodLink own k arraycopyName, .native arraycopyName, .static arraycopyName, .initialized "java/lang/System"]
  | _ => []
def za_sY (j : Nat) (f : za_MI → Bool) : Bool := match za_MT j with
  | some Y => f Y
  | none => false
/-- what is asked beside the words -/
def za_np (Y : za_MI) (n : Nat) : Bool := decide ((parseMethodDescriptor Y.1.desc).map (fun d => d.parameters.length) = some n)
def za_side (r : za_row) : Bool := match r.1 with
  | 0 => match vwCl[r.2.1]? with
    | some q => Nat.blt r.2.2.1 q.2.2 && decide ((if r.2.2.2 = 0 then false else true) = (q.2.1 r.2.2.1).2.2.2) && decide ((q.2.1 r.2.2.1).1 = q.1)
    | none => false
  | 1 => za_sY r.2.1 (fun Y => za_np Y r.2.2.1 && decide ((vwCl[za_cl Y]?).map (fun q => q.1) = some Y.1.cls) && decide (za_hh Y = []))
  | 11 => za_sY r.2.1 (fun Y => za_np Y r.2.2.1 && decide ((vwCl[za_cl Y]?).map (fun q => q.1) = some Y.1.cls) && decide (za_hh Y = []))
  | 2 => za_sY r.2.1 (fun Y => za_np Y r.2.2.1)
  | 12 => za_sY r.2.1 (fun Y => za_np Y r.2.2.1 && decide (za_hh Y = []))
  | 3 => za_sY r.2.1 (fun Y => za_np Y r.2.2.1 && decide (Y.1.name = "<init>") && decide (za_rt Y = none) && decide (za_hh Y = []))
  | 13 => za_sY r.2.1 (fun Y => za_np Y r.2.2.1 && decide (Y.1.name = "<init>") && decide (za_rt Y = none) && decide (za_hh Y = []))
  | 5 => match vwCl[r.2.1]? with
    | some _ => true
    | none => false
  | 6 => Nat.blt r.2.1 2
  | _ => true
def za_words (own : String) (rs : List (Nat × za_row)) : List Cond := rs.flatMap (fun q => za_need own q.1 q.2)
set_option maxRecDepth 20000 in
theorem zc_f0 : ∀ w ∈ u_ws RX0 TX0 10, w ∈ za_wd := za_mem [304, 306, 308, 310, 312, 314, 316, 318, 320, 322] (by decide +kernel) (by decide +kernel)
set_option maxRecDepth 20000 in
theorem zc_f1 : ∀ w ∈ u_ws RX1 TX1 12, w ∈ za_wd := za_mem [500, 502, 504, 506, 508, 510, 512, 514, 516, 518, 520, 522] (by decide +kernel) (by decide +kernel)
set_option maxRecDepth 20000 in
theorem zc_f2 : ∀ w ∈ u_ws RX2 TX2 3, w ∈ za_wd := za_mem [372, 374, 376] (by decide +kernel) (by decide +kernel)
set_option maxRecDepth 20000 in
theorem zc_f3 : ∀ w ∈ u_ws RX3 TX3 2, w ∈ za_wd := za_mem [452, 454] (by decide +kernel) (by decide +kernel)
set_option maxRecDepth 20000 in
theorem zc_f4 : ∀ w ∈ u_ws RX4 TX4 4, w ∈ za_wd := za_mem [539, 541, 543, 545] (by decide +kernel) (by decide +kernel)
set_option maxRecDepth 20000 in
theorem zc_f5 : ∀ w ∈ u_ws RX5 TX5 4, w ∈ za_wd := za_mem [471, 473, 475, 477] (by decide +kernel) (by decide +kernel)
set_option maxRecDepth 20000 in
theorem zc_f6 : ∀ w ∈ u_ws RX6 TX6 3, w ∈ za_wd := za_mem [560, 562, 564] (by decide +kernel) (by decide +kernel)
set_option maxRecDepth 20000 in
theorem zc_f7 : ∀ w ∈ u_ws RX7 TX7 6, w ∈ za_wd := za_mem [387, 389, 391, 393, 395, 397] (by decide +kernel) (by decide +kernel)
set_option maxRecDepth 20000 in
theorem zc_f8 : ∀ w ∈ u_ws RX8 TX8 8, w ∈ za_wd := za_mem [427, 429, 431, 433, 435, 437, 439, 441] (by decide +kernel) (by decide +kernel)
set_option maxRecDepth 20000 in
theorem zc_f9 : ∀ w ∈ u_ws RX9 TX9 6, w ∈ za_wd := za_mem [348, 350, 352, 354, 356, 358] (by decide +kernel) (by decide +kernel)
set_option maxRecDepth 20000 in
theorem zc_f10 : ∀ w ∈ u_ws RX10 TX10 20, w ∈ za_wd := za_mem [227, 229, 231, 233, 235, 237, 239, 241, 243, 245, 247, 249, 251, 253, 255, 257, 259, 261, 263, 265] (by decide +kernel) (by decide +kernel)
set_option maxRecDepth 20000 in
theorem zc_f11 : ∀ w ∈ u_ws RX11 TX11 18, w ∈ za_wd := za_mem [585, 587, 589, 591, 593, 595, 597, 599, 601, 603, 605, 607, 609, 611, 613, 615, 617, 619] (by decide +kernel) (by decide +kernel)
set_option maxRecDepth 20000 in
theorem zc_f12 : ∀ w ∈ u_ws RX12 TX12 85, w ∈ za_wd := za_mem [1475, 1477, 1479, 1481, 1483, 1485, 1487, 1489, 1491, 1493, 1495, 1497, 1499, 1501, 1503, 1505, 1507, 1509, 1511, 1513, 1515, 1517, 1519, 1521, 1523, 1525, 1527, 1529, 1531, 1533, 1535, 1537, 1539, 1541, 1543, 1545, 1547, 1549, 1551, 1553, 1555, 1557, 1559, 1561, 1563, 1565, 1567, 1569, 1571, 1573, 1575, 1577, 1579, 1581, 1583, 1585, 1587, 1589, 1591, 1593, 1595, 1597, 1599, 1601, 1603, 1605, 1607, 1609, 1611, 1613, 1615, 1617, 1619, 1621, 1623, 1625, 1627, 1629, 1631, 1633, 1635, 1637, 1639, 1641, 1643] (by decide +kernel) (by decide +kernel)
set_option maxRecDepth 20000 in
theorem zc_w0 : ∀ w ∈ za_words RX0 za_cp0, w ∈ za_wd := za_mem [276, 141, 142, 282, 287, 291, 296, 298, 299, 302, 303, 277, 300, 1173, 747, 749, 748, 133] (by decide +kernel) (by decide +kernel)
theorem zc_s0 : za_cp0.all (fun q => za_side q.2) = true := by decide +kernel
set_option maxRecDepth 20000 in
theorem zc_w1 : ∀ w ∈ za_words RX1 za_cp1, w ∈ za_wd := za_mem [485, 141, 142, 486, 487, 488, 489, 490, 491, 492, 493, 494, 495, 496, 498, 278, 1271, 651, 652, 284, 408, 1272, 693, 694, 1273, 1275, 51, 1286, 1287, 1288, 1281, 162, 189, 1282, 1284, 52, 1298, 1175, 1299, 1301, 53, 1307, 1309, 54, 1311, 1313, 55, 1316, 749, 748, 133, 193, 1303, 1304, 1315, 697, 698, 466, 415] (by decide +kernel) (by decide +kernel)
theorem zc_s1 : za_cp1.all (fun q => za_side q.2) = true := by decide +kernel
set_option maxRecDepth 20000 in
theorem zc_w2 : ∀ w ∈ za_words RX2 za_cp2, w ∈ za_wd := za_mem [366, 141, 142, 368, 370, 367, 225, 1063, 1065, 40, 344, 1025, 1026, 1027, 1029, 1031, 33, 1033, 1035, 34, 1041, 1042, 1043, 1045, 849, 850, 1067, 1069, 41, 1037, 1039, 35, 1046, 1048, 36, 1050, 1052, 37, 347, 1054, 1056, 38, 1058, 1060, 39, 1062, 1023, 32] (by decide +kernel) (by decide +kernel)
theorem zc_s2 : za_cp2.all (fun q => za_side q.2) = true := by decide +kernel
set_option maxRecDepth 20000 in
theorem zc_w3 : ∀ w ∈ za_words RX3 za_cp3, w ∈ za_wd := za_mem [449, 141, 142, 450, 451, 288, 283, 159, 1210, 1211, 1212, 1214, 1216, 45, 1234, 660, 661, 1235, 664, 665, 1236, 1238, 49, 1222, 1223, 1224, 1218, 1220, 46] (by decide +kernel) (by decide +kernel)
theorem zc_s3 : za_cp3.all (fun q => za_side q.2) = true := by decide +kernel
set_option maxRecDepth 20000 in
theorem zc_w4 : ∀ w ∈ za_words RX4 za_cp4, w ∈ za_wd := za_mem [530, 141, 142, 531, 533, 535, 537, 182, 293, 1357, 1359, 56, 1361, 660, 661, 1362, 1363, 1364] (by decide +kernel) (by decide +kernel)
theorem zc_s4 : za_cp4.all (fun q => za_side q.2) = true := by decide +kernel
set_option maxRecDepth 20000 in
theorem zc_w5 : ∀ w ∈ za_words RX5 za_cp5, w ∈ za_wd := za_mem [462, 141, 142, 463, 401, 115, 403, 465, 468, 469, 470, 204, 208, 700, 655, 656, 701, 703, 4, 414, 709, 711, 5, 719, 721, 6, 738, 672, 673, 407, 705, 706, 707, 197, 713, 714, 715, 411, 717, 688, 689, 718, 676, 677, 215, 222, 723, 725, 7, 219, 226, 727, 729, 8, 731, 733, 9, 735, 736] (by decide +kernel) (by decide +kernel)
theorem zc_s5 : za_cp5.all (fun q => za_side q.2) = true := by decide +kernel
set_option maxRecDepth 20000 in
theorem zc_w6 : ∀ w ∈ za_words RX6 za_cp6, w ∈ za_wd := za_mem [553, 141, 142, 554, 556, 558, 292, 1378, 1379, 1381, 846, 1382, 660, 661, 1383, 664, 665] (by decide +kernel) (by decide +kernel)
theorem zc_s6 : za_cp6.all (fun q => za_side q.2) = true := by decide +kernel
set_option maxRecDepth 20000 in
theorem zc_w7 : ∀ w ∈ za_words RX7 za_cp7, w ∈ za_wd := za_mem [330, 141, 142, 381, 382, 383, 385, 331, 332, 113, 333, 334, 379, 361, 362, 114, 363, 364, 380, 151, 0, 833, 834, 835, 837, 838, 839, 841, 842, 843, 343, 920, 922, 14, 1072, 1074, 42, 341, 1076, 1026, 1027, 924, 926, 15, 932, 849, 850, 346, 928, 930, 16, 933, 935, 17, 176, 946, 947, 952, 954, 20, 956, 958, 21, 965, 967, 23, 279, 985, 987, 25, 184, 997, 999, 26, 1001, 1003, 27, 1005, 1007, 28, 201, 1009, 1011, 29, 216, 1017, 1019, 31, 941, 943, 19, 977, 978, 979, 169, 172, 159, 937, 939, 18, 155, 1, 960, 962, 22, 969, 970, 971, 973, 975, 24, 981, 982, 983, 989, 990, 991, 993, 994, 995, 187, 191, 195, 199, 1013, 1015, 30, 206, 210, 213, 1023, 32, 371, 1071, 1042, 1043, 220, 223, 369] (by decide +kernel) (by decide +kernel)
theorem zc_s7 : za_cp7.all (fun q => za_side q.2) = true := by decide +kernel
set_option maxRecDepth 20000 in
theorem zc_w8 : ∀ w ∈ za_words RX8 za_cp8, w ∈ za_wd := za_mem [405, 141, 142, 406, 410, 413, 417, 419, 421, 423, 425, 159, 675, 676, 677, 679, 681, 3, 687, 688, 689, 683, 684, 685, 671, 672, 673, 285, 289, 654, 655, 656, 294, 659, 660, 661, 663, 664, 665, 667, 668, 669, 281, 650, 651, 652, 692, 693, 694] (by decide +kernel) (by decide +kernel)
theorem zc_s8 : za_cp8.all (fun q => za_side q.2) = true := by decide +kernel
set_option maxRecDepth 20000 in
theorem zc_w9 : ∀ w ∈ za_words RX9 za_cp9, w ∈ za_wd := za_mem [336, 141, 142, 338, 339, 340, 342, 345, 337, 845, 846, 848, 849, 850, 852, 853, 855, 857, 11, 908, 909, 911, 913, 12, 916, 918, 13, 915] (by decide +kernel) (by decide +kernel)
theorem zc_s9 : za_cp9.all (fun q => za_side q.2) = true := by decide +kernel
set_option maxRecDepth 20000 in
theorem zc_w10 : ∀ w ∈ za_words RX10 za_cp10, w ∈ za_wd := za_mem [148, 141, 142, 178, 179, 181, 186, 203, 207, 211, 218, 221, 224, 149, 151, 0, 153, 155, 1, 175, 161, 162, 164, 165, 183, 188, 192, 196, 200, 214, 167, 170, 157, 173, 159, 691, 676, 677, 1290, 706, 707, 1291, 1292, 1294, 714, 715, 1295, 1296, 1226, 1228, 47, 1230, 1232, 48] (by decide +kernel) (by decide +kernel)
theorem zc_s10 : za_cp10.all (fun q => za_side q.2) = true := by decide +kernel
set_option maxRecDepth 20000 in
theorem zc_w11 : ∀ w ∈ za_words RX11 za_cp11, w ∈ za_wd := za_mem [140, 141, 142, 567, 568, 569, 570, 571, 143, 144, 109, 145, 146, 572, 271, 272, 111, 274, 573, 574, 575, 576, 577, 325, 326, 112, 327, 328, 578, 400, 401, 115, 403, 579, 444, 445, 116, 447, 580, 457, 458, 117, 460, 581, 480, 481, 118, 483, 582, 525, 526, 119, 528, 583, 548, 549, 120, 551, 584, 626, 628, 2, 762, 125, 828, 829, 830, 386, 384, 1077, 1079, 43, 1081, 1082, 1083, 168, 171, 177, 1093, 947, 1094, 970, 971, 280, 185, 202, 217, 190, 194, 198, 301, 1095, 132, 1118, 1119, 1122, 1123, 1124, 1127, 684, 685, 180, 1135, 1137, 44, 286, 290, 295, 297, 1148, 660, 661, 1149, 664, 665, 1157, 1158, 1159, 1161, 994, 995, 1169, 1170, 1171, 1174, 1175, 638, 639, 640, 1187, 651, 652, 416, 409, 418, 420, 412, 422, 424, 1195, 655, 656, 1196, 668, 669, 1205, 1206, 1207, 1247, 1249, 50, 205, 209, 212, 646, 647, 648, 696, 697, 698, 467, 1267, 1268, 1269, 1277, 1278, 1279, 499, 497, 1333, 1334, 1335, 426, 1344, 693, 694, 1345, 174, 1353, 1354, 1355, 532, 534, 536, 538, 1374, 1375, 1376, 555, 557, 559, 743, 744, 745] (by decide +kernel) (by decide +kernel)
theorem zc_s11 : za_cp11.all (fun q => za_side q.2) = true := by decide +kernel
set_option maxRecDepth 20000 in
theorem zc_w12 : ∀ w ∈ za_words RX12 za_cp12, w ∈ za_wd := za_mem [1389, 141, 142, 1391, 1392, 1400, 1401, 1403, 1404, 1405, 1406, 1407, 1408, 1409, 1410, 1411, 1414, 1415, 1442, 1443, 1444, 1445, 1446, 1447, 1448, 1449, 1450, 1451, 1453, 1462, 1463, 1464, 1465, 1466, 1467, 1468, 1469, 1472, 1473, 1474, 1390, 1412, 1651, 1653, 57, 1416, 1417, 1667, 1669, 60, 1419, 1423, 1421, 1422, 1418, 1671, 1672, 1674, 1675, 1420, 1695, 1692, 1693, 1689, 1690, 1413, 1677, 1679, 61, 1663, 1665, 59, 1696, 1698, 64, 1704, 1706, 66, 1685, 1687, 63, 1716, 1717, 1719, 1721, 69, 1435, 1436, 1775, 1776, 1778, 1779, 1767, 1769, 81, 1437, 1751, 1753, 77, 1759, 1761, 79, 1747, 1749, 76, 1763, 1765, 80, 1771, 1773, 82, 1755, 1757, 78, 1781, 1783, 83, 1785, 1787, 84, 1424, 1700, 1702, 65, 1425, 1708, 1710, 67, 1428, 1727, 1729, 71, 1731, 1733, 72, 1712, 1714, 68, 1429, 1430, 1440, 1426, 1441, 1427, 1723, 1725, 70, 1735, 1737, 73, 1438, 1432, 1433, 1439, 1434, 1739, 1741, 74, 1431, 1743, 1745, 75, 1659, 1661, 58, 1681, 1683, 62, 1393, 1394, 1395, 1396, 1397, 1398, 1399, 1402, 1789, 1791, 85, 1452, 1470, 1805, 1807, 86, 1813, 1815, 87, 1821, 1823, 88, 1829, 1831, 89, 1833, 1835, 90, 1841, 1842, 1843, 1454, 1861, 1863, 93, 1865, 1867, 94, 1455, 1459, 1456, 1457, 1460, 1461, 1458, 1857, 1859, 92, 1853, 1855, 91, 1877, 1879, 95, 1885, 1887, 96, 1909, 1911, 101, 1913, 1914, 1905, 1907, 100, 1897, 1899, 98, 1901, 1903, 99, 1893, 1895, 97, 1936, 1937, 1932, 1934, 104, 1928, 1930, 103, 1924, 1926, 102, 1955, 1957, 105, 1963, 1965, 106, 1471] (by decide +kernel) (by decide +kernel)
theorem zc_s12 : za_cp12.all (fun q => za_side q.2) = true := by decide +kernel
set_option maxRecDepth 20000 in
theorem zc_w13 : ∀ w ∈ za_words RL za_cp13, w ∈ za_wd := za_mem [758, 759, 760, 135, 136, 108, 757, 125, 1089, 1090, 1091, 1088, 132, 1114, 1115, 1116, 1131, 1132, 1133, 1143, 1144, 1145, 1153, 1154, 1155, 1165, 1166, 1167, 1183, 1184, 1185, 1191, 1192, 1193, 1200, 1201, 1202, 1243, 1244, 1245, 1255, 1256, 1257, 1263, 1264, 1265, 1320, 1321, 1322, 1328, 1329, 1330, 1340, 1341, 1342, 1349, 1350, 1351, 1369, 1370, 1371, 137, 138, 1384, 1385, 121, 1386, 1387, 622, 623, 624, 1647, 1648, 1649, 754, 755, 1655, 1656, 1657, 630, 631, 632, 1793, 1794, 1795, 1085, 1086, 1797, 1798, 1799, 1111, 1112, 1801, 1802, 1803, 1128, 1129, 1809, 1810, 1811, 1140, 1141, 1817, 1818, 1819, 1150, 1151, 1825, 1826, 1827, 1162, 1163, 1837, 1838, 1839, 634, 635, 636, 1845, 1846, 1847, 1180, 1181, 1849, 1850, 1851, 1188, 1189, 1869, 1870, 1871, 1197, 1198, 1873, 1874, 1875, 1240, 1241, 1881, 1882, 1883, 1252, 1253, 1889, 1890, 1891, 642, 643, 644, 1916, 1917, 1918, 1260, 1261, 1920, 1921, 1922, 1317, 1318, 1939, 1940, 1941, 1325, 1326, 1943, 1944, 1945, 1337, 1338, 1947, 1948, 1949, 1346, 1347, 1951, 1952, 1953, 1366, 1367, 1959, 1960, 1961, 739, 740, 741, 1967, 1968, 1969, 750, 751, 752, 1971, 1972, 1973] (by decide +kernel) (by decide +kernel)
theorem zc_s13 : za_cp13.all (fun q => za_side q.2) = true := by decide +kernel
set_option maxRecDepth 20000 in
theorem zc_w14 : ∀ w ∈ za_words RJ6 za_cp14, w ∈ za_wd := za_mem [1306, 1177, 1178, 1179] (by decide +kernel) (by decide +kernel)
theorem zc_s14 : za_cp14.all (fun q => za_side q.2) = true := by decide +kernel
set_option maxRecDepth 20000 in
theorem zc_w15 : ∀ w ∈ za_words RJ13 za_cp15, w ∈ za_wd := za_mem [949, 950, 951] (by decide +kernel) (by decide +kernel)
theorem zc_s15 : za_cp15.all (fun q => za_side q.2) = true := by decide +kernel
set_option maxRecDepth 20000 in
theorem zc_w16 : ∀ w ∈ za_words RJ9 za_cp16, w ∈ za_wd := za_mem [] (by decide +kernel) (by decide +kernel)
theorem zc_s16 : za_cp16.all (fun q => za_side q.2) = true := by decide +kernel
set_option maxRecDepth 20000 in
theorem zc_w17 : ∀ w ∈ za_words RJ7 za_cp17, w ∈ za_wd := za_mem [] (by decide +kernel) (by decide +kernel)
theorem zc_s17 : za_cp17.all (fun q => za_side q.2) = true := by decide +kernel
theorem za_lk_mem : ∀ {l : List (Nat × za_row)} {k : Nat} {r : za_row}, za_lk l k = some r → (k, r) ∈ l
  | [], _, _, h => by cases h
  | q :: l, k, r, h => by
    unfold za_lk at h
    cases hb : Nat.beq q.1 k with
    | true =>
      have e := Nat.eq_of_beq_eq_true hb
      simp only [hb, cond_true, Option.some.injEq] at h
      obtain ⟨q1, q2⟩ := q
      dsimp only at h e
      rw [← e, ← h]
      exact List.mem_cons_self
    | false =>
      simp only [hb, cond_false] at h
      exact List.mem_cons_of_mem _ (za_lk_mem h)
theorem zc_w : ∀ (c : Nat), ∀ w ∈ za_words (za_ow c) (za_cpl c), w ∈ za_wd := by
  intro c
  match c with
  | 0 => exact zc_w0
  | 1 => exact zc_w1
  | 2 => exact zc_w2
  | 3 => exact zc_w3
  | 4 => exact zc_w4
  | 5 => exact zc_w5
  | 6 => exact zc_w6
  | 7 => exact zc_w7
  | 8 => exact zc_w8
  | 9 => exact zc_w9
  | 10 => exact zc_w10
  | 11 => exact zc_w11
  | 12 => exact zc_w12
  | 13 => exact zc_w13
  | 14 => exact zc_w14
  | 15 => exact zc_w15
  | 16 => exact zc_w16
  | 17 => exact zc_w17
  | _ + 18 => intro w hw; simp [za_cpl, za_words] at hw
theorem zc_s : ∀ (c : Nat), (za_cpl c).all (fun q => za_side q.2) = true := by
  intro c
  match c with
  | 0 => exact zc_s0
  | 1 => exact zc_s1
  | 2 => exact zc_s2
  | 3 => exact zc_s3
  | 4 => exact zc_s4
  | 5 => exact zc_s5
  | 6 => exact zc_s6
  | 7 => exact zc_s7
  | 8 => exact zc_s8
  | 9 => exact zc_s9
  | 10 => exact zc_s10
  | 11 => exact zc_s11
  | 12 => exact zc_s12
  | 13 => exact zc_s13
  | 14 => exact zc_s14
  | 15 => exact zc_s15
  | 16 => exact zc_s16
  | 17 => exact zc_s17
  | _ + 18 => rfl
/-- an entry that is found: its words hold, and what is asked beside them -/
theorem zc_row {c k : Nat} {r : za_row} (h : za_CP c k = some r) : (∀ w ∈ za_need (za_ow c) k r, w ∈ za_wd) ∧ za_side r = true := by
  have hm := za_lk_mem h
  exact ⟨fun w hw => zc_w c w (List.mem_flatMap.mpr ⟨_, hm, hw⟩), List.all_eq_true.mp (zc_s c) _ hm⟩
theorem zc_cls {ci : Nat} {q : vw_C} (h : vwCl[ci]? = some q) : (∀ w ∈ u_ws q.1 q.2.1 q.2.2, w ∈ za_wd) ∧ (∀ k, k < q.2.2 → parseFieldDescriptor (q.2.1 k).2.2.1 = some (za_tyX ci k)) ∧ (∀ a, a < q.2.2 → ∀ b, b < q.2.2 → a ≠ b → (q.2.1 a).2.1 ≠ (q.2.1 b).2.1) ∧ q.2.2 = za_nX ci ∧ q.1 = za_ow ci := by
  match ci, h with
  | 0, h => cases h; exact ⟨zc_f0, tyX0_ok, nmX0, rfl, rfl⟩
  | 1, h => cases h; exact ⟨zc_f1, tyX1_ok, nmX1, rfl, rfl⟩
  | 2, h => cases h; exact ⟨zc_f2, tyX2_ok, nmX2, rfl, rfl⟩
  | 3, h => cases h; exact ⟨zc_f3, tyX3_ok, nmX3, rfl, rfl⟩
  | 4, h => cases h; exact ⟨zc_f4, tyX4_ok, nmX4, rfl, rfl⟩
  | 5, h => cases h; exact ⟨zc_f5, tyX5_ok, nmX5, rfl, rfl⟩
  | 6, h => cases h; exact ⟨zc_f6, tyX6_ok, nmX6, rfl, rfl⟩
  | 7, h => cases h; exact ⟨zc_f7, tyX7_ok, nmX7, rfl, rfl⟩
  | 8, h => cases h; exact ⟨zc_f8, tyX8_ok, nmX8, rfl, rfl⟩
  | 9, h => cases h; exact ⟨zc_f9, tyX9_ok, nmX9, rfl, rfl⟩
  | 10, h => cases h; exact ⟨zc_f10, tyX10_ok, nmX10, rfl, rfl⟩
  | 11, h => cases h; exact ⟨zc_f11, tyX11_ok, nmX11, rfl, rfl⟩
  | 12, h => cases h; exact ⟨zc_f12, tyX12_ok, nmX12, rfl, rfl⟩
  | _ + 13, h => simp [vwCl] at h

/-! THE TABLES HOLD, part 0: every instruction is the machine's, every callee has its words. -/
theorem xall {f : Nat → Bool} {a n : Nat} (h : (List.range' a n).all f = true) : ∀ y : Nat, a ≤ y → y < a + n → f y = true := fun y h1 h2 => List.all_eq_true.mp h y (List.mem_range'_1.mpr ⟨h1, h2⟩)
def xoP (y : Nat) : Prop := ∀ me : xMe, xtab[y]? = some me → ∃ a b c d, xmok me a b c d = true
theorem xo_0 : xoP 0 := fun me h => ⟨101, 602, 601, 0, by
  cases h
  decide +kernel⟩
theorem xo_1 : xoP 1 := fun me h => ⟨90, 114, 113, 0, by
  cases h
  decide +kernel⟩
theorem xo_2 : xoP 2 := fun me h => ⟨90, 405, 403, 404, by
  cases h
  decide +kernel⟩
theorem xo_3 : xoP 3 := fun me h => ⟨90, 731, 729, 730, by
  cases h
  decide +kernel⟩
theorem xo_4 : xoP 4 := fun me h => ⟨90, 611, 609, 610, by
  cases h
  decide +kernel⟩
theorem xo_5 : xoP 5 := fun me h => ⟨90, 683, 681, 682, by
  cases h
  decide +kernel⟩
theorem xo_6 : xoP 6 := fun me h => ⟨90, 709, 707, 708, by
  cases h
  decide +kernel⟩
theorem xo_7 : xoP 7 := fun me h => ⟨90, 882, 880, 881, by
  cases h
  decide +kernel⟩
theorem xo_8 : xoP 8 := fun me h => ⟨90, 719, 717, 718, by
  cases h
  decide +kernel⟩
theorem xo_9 : xoP 9 := fun me h => ⟨90, 894, 892, 893, by
  cases h
  decide +kernel⟩
theorem xo_10 : xoP 10 := fun me h => ⟨90, 901, 899, 900, by
  cases h
  decide +kernel⟩
theorem xo_11 : xoP 11 := fun me h => ⟨90, 413, 411, 412, by
  cases h
  decide +kernel⟩
theorem xo_12 : xoP 12 := fun me h => ⟨90, 909, 907, 908, by
  cases h
  decide +kernel⟩
theorem xo_13 : xoP 13 := fun me h => ⟨90, 937, 935, 936, by
  cases h
  decide +kernel⟩
theorem xo_14 : xoP 14 := fun me h => ⟨90, 417, 415, 416, by
  cases h
  decide +kernel⟩
theorem xo_15 : xoP 15 := fun me h => ⟨90, 424, 422, 423, by
  cases h
  decide +kernel⟩
theorem xo_16 : xoP 16 := fun me h => ⟨90, 944, 942, 943, by
  cases h
  decide +kernel⟩
theorem xo_17 : xoP 17 := fun me h => ⟨90, 458, 456, 457, by
  cases h
  decide +kernel⟩
theorem xo_18 : xoP 18 := fun me h => ⟨90, 462, 460, 461, by
  cases h
  decide +kernel⟩
theorem xo_19 : xoP 19 := fun me h => ⟨90, 951, 949, 950, by
  cases h
  decide +kernel⟩
theorem xo_20 : xoP 20 := fun me h => ⟨90, 964, 962, 963, by
  cases h
  decide +kernel⟩
theorem xo_21 : xoP 21 := fun me h => ⟨90, 470, 468, 469, by
  cases h
  decide +kernel⟩
theorem xo_22 : xoP 22 := fun me h => ⟨90, 562, 560, 561, by
  cases h
  decide +kernel⟩
theorem xo_23 : xoP 23 := fun me h => ⟨90, 971, 969, 970, by
  cases h
  decide +kernel⟩
theorem xo_24 : xoP 24 := fun me h => ⟨90, 978, 976, 977, by
  cases h
  decide +kernel⟩
theorem xo_25 : xoP 25 := fun me h => ⟨90, 982, 981, 27, by
  cases h
  decide +kernel⟩
theorem xo_26 : xoP 26 := fun me h => ⟨90, 998, 996, 997, by
  cases h
  decide +kernel⟩
theorem xo_27 : xoP 27 := fun me h => ⟨90, 1005, 1003, 1004, by
  cases h
  decide +kernel⟩
theorem xo_28 : xoP 28 := fun me h => ⟨90, 1017, 1015, 1016, by
  cases h
  decide +kernel⟩
theorem xo_29 : xoP 29 := fun me h => ⟨90, 1024, 1022, 1023, by
  cases h
  decide +kernel⟩
theorem xo_30 : xoP 30 := fun me h => ⟨90, 1031, 1029, 1030, by
  cases h
  decide +kernel⟩
theorem xo_31 : xoP 31 := fun me h => ⟨90, 1038, 1036, 1037, by
  cases h
  decide +kernel⟩
theorem xo_32 : xoP 32 := fun me h => ⟨90, 1047, 1045, 1046, by
  cases h
  decide +kernel⟩
theorem xo_33 : xoP 33 := fun me h => ⟨90, 1071, 1069, 1070, by
  cases h
  decide +kernel⟩
theorem xo_34 : xoP 34 := fun me h => ⟨90, 1078, 1076, 1077, by
  cases h
  decide +kernel⟩
theorem xo_35 : xoP 35 := fun me h => ⟨90, 566, 564, 565, by
  cases h
  decide +kernel⟩
theorem xo_36 : xoP 36 := fun me h => ⟨90, 595, 593, 594, by
  cases h
  decide +kernel⟩
theorem xo_37 : xoP 37 := fun me h => ⟨90, 599, 597, 598, by
  cases h
  decide +kernel⟩
theorem xo_38 : xoP 38 := fun me h => ⟨90, 1085, 1083, 1084, by
  cases h
  decide +kernel⟩
theorem xo_39 : xoP 39 := fun me h => ⟨90, 1092, 1090, 1091, by
  cases h
  decide +kernel⟩
theorem xo_40 : xoP 40 := fun me h => ⟨90, 606, 604, 605, by
  cases h
  decide +kernel⟩
theorem xo_41 : xoP 41 := fun me h => ⟨90, 1010, 1009, 28, by
  cases h
  decide +kernel⟩
theorem xo_42 : xoP 42 := fun me h => ⟨90, 687, 686, 12, by
  cases h
  decide +kernel⟩
theorem xo_43 : xoP 43 := fun me h => ⟨90, 713, 712, 13, by
  cases h
  decide +kernel⟩
theorem xo_44 : xoP 44 := fun me h => ⟨90, 913, 912, 26, by
  cases h
  decide +kernel⟩
theorem xo_45 : xoP 45 := fun me h => ⟨90, 722, 721, 0, by
  cases h
  decide +kernel⟩
theorem xo_46 : xoP 46 := fun me h => ⟨90, 420, 419, 0, by
  cases h
  decide +kernel⟩
theorem xo_47 : xoP 47 := fun me h => ⟨90, 581, 580, 0, by
  cases h
  decide +kernel⟩
theorem xo_48 : xoP 48 := fun me h => ⟨90, 750, 749, 0, by
  cases h
  decide +kernel⟩
theorem xo_49 : xoP 49 := fun me h => ⟨96, 1098, 1097, 0, by
  cases h
  decide +kernel⟩
theorem xo_50 : xoP 50 := fun me h => ⟨96, 1191, 1189, 1190, by
  cases h
  decide +kernel⟩
theorem xo_51 : xoP 51 := fun me h => ⟨96, 1206, 1205, 0, by
  cases h
  decide +kernel⟩
theorem xo_52 : xoP 52 := fun me h => ⟨96, 1210, 1209, 30, by
  cases h
  decide +kernel⟩
theorem xo_53 : xoP 53 := fun me h => ⟨96, 1328, 1327, 51, by
  cases h
  decide +kernel⟩
theorem xo_54 : xoP 54 := fun me h => ⟨96, 1298, 1297, 0, by
  cases h
  decide +kernel⟩
theorem xo_55 : xoP 55 := fun me h => ⟨96, 1301, 1300, 0, by
  cases h
  decide +kernel⟩
theorem xo_56 : xoP 56 := fun me h => ⟨96, 1561, 1560, 84, by
  cases h
  decide +kernel⟩
theorem xo_57 : xoP 57 := fun me h => ⟨96, 1445, 1444, 63, by
  cases h
  decide +kernel⟩
theorem xo_58 : xoP 58 := fun me h => ⟨96, 1522, 1521, 82, by
  cases h
  decide +kernel⟩
theorem xo_59 : xoP 59 := fun me h => ⟨96, 1332, 1331, 52, by
  cases h
  decide +kernel⟩
theorem xo_60 : xoP 60 := fun me h => ⟨96, 1466, 1465, 68, by
  cases h
  decide +kernel⟩
theorem xo_61 : xoP 61 := fun me h => ⟨96, 1340, 1339, 54, by
  cases h
  decide +kernel⟩
theorem xo_62 : xoP 62 := fun me h => ⟨96, 1510, 1509, 79, by
  cases h
  decide +kernel⟩
theorem xo_63 : xoP 63 := fun me h => ⟨96, 1381, 1380, 57, by
  cases h
  decide +kernel⟩
theorem xo_64 : xoP 64 := fun me h => ⟨96, 1462, 1461, 67, by
  cases h
  decide +kernel⟩
theorem xo_65 : xoP 65 := fun me h => ⟨96, 1369, 1368, 56, by
  cases h
  decide +kernel⟩
theorem xo_66 : xoP 66 := fun me h => ⟨96, 1470, 1469, 69, by
  cases h
  decide +kernel⟩
theorem xo_67 : xoP 67 := fun me h => ⟨96, 1323, 1322, 50, by
  cases h
  decide +kernel⟩
theorem xo_68 : xoP 68 := fun me h => ⟨96, 1348, 1347, 55, by
  cases h
  decide +kernel⟩
theorem xo_69 : xoP 69 := fun me h => ⟨96, 1199, 1198, 29, by
  cases h
  decide +kernel⟩
theorem xo_70 : xoP 70 := fun me h => ⟨96, 1195, 1193, 1194, by
  cases h
  decide +kernel⟩
theorem xo_71 : xoP 71 := fun me h => ⟨96, 1218, 1217, 32, by
  cases h
  decide +kernel⟩
theorem xo_72 : xoP 72 := fun me h => ⟨96, 1224, 1223, 33, by
  cases h
  decide +kernel⟩
theorem xo_73 : xoP 73 := fun me h => ⟨96, 1232, 1231, 34, by
  cases h
  decide +kernel⟩
theorem xo_74 : xoP 74 := fun me h => ⟨96, 1214, 1213, 31, by
  cases h
  decide +kernel⟩
theorem xo_75 : xoP 75 := fun me h => ⟨96, 1245, 1244, 37, by
  cases h
  decide +kernel⟩
theorem xo_76 : xoP 76 := fun me h => ⟨96, 1251, 1250, 38, by
  cases h
  decide +kernel⟩
theorem xo_77 : xoP 77 := fun me h => ⟨96, 1255, 1254, 39, by
  cases h
  decide +kernel⟩
theorem xo_78 : xoP 78 := fun me h => ⟨96, 1241, 1240, 36, by
  cases h
  decide +kernel⟩
theorem xo_79 : xoP 79 := fun me h => ⟨96, 1259, 1258, 40, by
  cases h
  decide +kernel⟩
theorem xo_80 : xoP 80 := fun me h => ⟨96, 1263, 1262, 41, by
  cases h
  decide +kernel⟩
theorem xo_81 : xoP 81 := fun me h => ⟨96, 1276, 1275, 44, by
  cases h
  decide +kernel⟩
theorem xo_82 : xoP 82 := fun me h => ⟨96, 1236, 1235, 35, by
  cases h
  decide +kernel⟩
theorem xo_83 : xoP 83 := fun me h => ⟨96, 1272, 1271, 43, by
  cases h
  decide +kernel⟩
theorem xo_84 : xoP 84 := fun me h => ⟨96, 1286, 1285, 46, by
  cases h
  decide +kernel⟩
theorem xo_85 : xoP 85 := fun me h => ⟨96, 1282, 1281, 45, by
  cases h
  decide +kernel⟩
theorem xo_86 : xoP 86 := fun me h => ⟨96, 1295, 1294, 47, by
  cases h
  decide +kernel⟩
theorem xo_87 : xoP 87 := fun me h => ⟨96, 1267, 1266, 42, by
  cases h
  decide +kernel⟩
theorem xo_88 : xoP 88 := fun me h => ⟨96, 1203, 1201, 1202, by
  cases h
  decide +kernel⟩
theorem xo_89 : xoP 89 := fun me h => ⟨96, 1457, 1456, 66, by
  cases h
  decide +kernel⟩
theorem xo_90 : xoP 90 := fun me h => ⟨96, 1478, 1477, 71, by
  cases h
  decide +kernel⟩
theorem xo_91 : xoP 91 := fun me h => ⟨96, 1474, 1473, 70, by
  cases h
  decide +kernel⟩
theorem xo_92 : xoP 92 := fun me h => ⟨96, 1490, 1489, 74, by
  cases h
  decide +kernel⟩
theorem xo_93 : xoP 93 := fun me h => ⟨96, 1486, 1485, 73, by
  cases h
  decide +kernel⟩
theorem xo_94 : xoP 94 := fun me h => ⟨96, 1494, 1493, 75, by
  cases h
  decide +kernel⟩
theorem xo_95 : xoP 95 := fun me h => ⟨96, 1482, 1481, 72, by
  cases h
  decide +kernel⟩
theorem xo_96 : xoP 96 := fun me h => ⟨96, 1498, 1497, 76, by
  cases h
  decide +kernel⟩
theorem xo_97 : xoP 97 := fun me h => ⟨96, 1502, 1501, 77, by
  cases h
  decide +kernel⟩
theorem xo_98 : xoP 98 := fun me h => ⟨96, 1514, 1513, 80, by
  cases h
  decide +kernel⟩
theorem xo_99 : xoP 99 := fun me h => ⟨96, 1506, 1505, 78, by
  cases h
  decide +kernel⟩
theorem xo_100 : xoP 100 := fun me h => ⟨96, 1518, 1517, 81, by
  cases h
  decide +kernel⟩
theorem xo_101 : xoP 101 := fun me h => ⟨96, 1453, 1452, 65, by
  cases h
  decide +kernel⟩
theorem xo_102 : xoP 102 := fun me h => ⟨96, 1449, 1448, 64, by
  cases h
  decide +kernel⟩
theorem xo_103 : xoP 103 := fun me h => ⟨96, 1314, 1313, 49, by
  cases h
  decide +kernel⟩
theorem xo_104 : xoP 104 := fun me h => ⟨96, 1310, 1309, 48, by
  cases h
  decide +kernel⟩
theorem xo_105 : xoP 105 := fun me h => ⟨96, 1305, 1303, 1304, by
  cases h
  decide +kernel⟩
theorem xo_106 : xoP 106 := fun me h => ⟨96, 1336, 1335, 53, by
  cases h
  decide +kernel⟩
theorem xo_107 : xoP 107 := fun me h => ⟨96, 1319, 1317, 1318, by
  cases h
  decide +kernel⟩
theorem xo_108 : xoP 108 := fun me h => ⟨96, 1344, 1342, 1343, by
  cases h
  decide +kernel⟩
theorem xo_109 : xoP 109 := fun me h => ⟨96, 1359, 1358, 0, by
  cases h
  decide +kernel⟩
theorem xo_110 : xoP 110 := fun me h => ⟨96, 1356, 1355, 0, by
  cases h
  decide +kernel⟩
theorem xo_111 : xoP 111 := fun me h => ⟨96, 1353, 1351, 1352, by
  cases h
  decide +kernel⟩
theorem xo_112 : xoP 112 := fun me h => ⟨96, 1364, 1362, 1363, by
  cases h
  decide +kernel⟩
theorem xo_113 : xoP 113 := fun me h => ⟨96, 1373, 1371, 1372, by
  cases h
  decide +kernel⟩
theorem xo_114 : xoP 114 := fun me h => ⟨96, 1377, 1375, 1376, by
  cases h
  decide +kernel⟩
theorem xo_115 : xoP 115 := fun me h => ⟨96, 1385, 1383, 1384, by
  cases h
  decide +kernel⟩
theorem xo_116 : xoP 116 := fun me h => ⟨96, 1393, 1392, 58, by
  cases h
  decide +kernel⟩
theorem xo_117 : xoP 117 := fun me h => ⟨96, 1397, 1396, 59, by
  cases h
  decide +kernel⟩
theorem xo_118 : xoP 118 := fun me h => ⟨96, 1389, 1387, 1388, by
  cases h
  decide +kernel⟩
theorem xo_119 : xoP 119 := fun me h => ⟨96, 1408, 1407, 0, by
  cases h
  decide +kernel⟩
theorem xo_120 : xoP 120 := fun me h => ⟨96, 1405, 1404, 60, by
  cases h
  decide +kernel⟩
theorem xo_121 : xoP 121 := fun me h => ⟨96, 1401, 1399, 1400, by
  cases h
  decide +kernel⟩
theorem xo_122 : xoP 122 := fun me h => ⟨96, 1412, 1410, 1411, by
  cases h
  decide +kernel⟩
theorem xo_123 : xoP 123 := fun me h => ⟨96, 1416, 1414, 1415, by
  cases h
  decide +kernel⟩
theorem xo_124 : xoP 124 := fun me h => ⟨96, 1420, 1418, 1419, by
  cases h
  decide +kernel⟩
theorem xo_125 : xoP 125 := fun me h => ⟨96, 1424, 1422, 1423, by
  cases h
  decide +kernel⟩
theorem xo_126 : xoP 126 := fun me h => ⟨96, 1432, 1431, 61, by
  cases h
  decide +kernel⟩
theorem xo_127 : xoP 127 := fun me h => ⟨96, 1428, 1426, 1427, by
  cases h
  decide +kernel⟩
theorem xo_128 : xoP 128 := fun me h => ⟨96, 1441, 1440, 62, by
  cases h
  decide +kernel⟩
theorem xo_129 : xoP 129 := fun me h => ⟨96, 1436, 1434, 1435, by
  cases h
  decide +kernel⟩
theorem xo_130 : xoP 130 := fun me h => ⟨96, 1526, 1524, 1525, by
  cases h
  decide +kernel⟩
theorem xo_131 : xoP 131 := fun me h => ⟨96, 1530, 1528, 1529, by
  cases h
  decide +kernel⟩
theorem xo_132 : xoP 132 := fun me h => ⟨96, 1534, 1532, 1533, by
  cases h
  decide +kernel⟩
theorem xo_133 : xoP 133 := fun me h => ⟨96, 1543, 1542, 83, by
  cases h
  decide +kernel⟩
theorem xo_134 : xoP 134 := fun me h => ⟨96, 1538, 1536, 1537, by
  cases h
  decide +kernel⟩
theorem xo_135 : xoP 135 := fun me h => ⟨96, 1547, 1545, 1546, by
  cases h
  decide +kernel⟩
theorem xo_136 : xoP 136 := fun me h => ⟨96, 1551, 1549, 1550, by
  cases h
  decide +kernel⟩
theorem xo_137 : xoP 137 := fun me h => ⟨96, 1556, 1554, 1555, by
  cases h
  decide +kernel⟩
theorem xo_138 : xoP 138 := fun me h => ⟨96, 1569, 1568, 85, by
  cases h
  decide +kernel⟩
theorem xo_139 : xoP 139 := fun me h => ⟨96, 1565, 1563, 1564, by
  cases h
  decide +kernel⟩
theorem xo_140 : xoP 140 := fun me h => ⟨96, 1573, 1571, 1572, by
  cases h
  decide +kernel⟩
theorem xo_141 : xoP 141 := fun me h => ⟨96, 1577, 1575, 1576, by
  cases h
  decide +kernel⟩
theorem xo_142 : xoP 142 := fun me h => ⟨96, 1582, 1580, 1581, by
  cases h
  decide +kernel⟩
theorem xo_143 : xoP 143 := fun me h => ⟨96, 1587, 1585, 1586, by
  cases h
  decide +kernel⟩
theorem xo_144 : xoP 144 := fun me h => ⟨96, 1592, 1590, 1591, by
  cases h
  decide +kernel⟩
theorem xo_145 : xoP 145 := fun me h => ⟨96, 1597, 1595, 1596, by
  cases h
  decide +kernel⟩
theorem xo_146 : xoP 146 := fun me h => ⟨96, 1610, 1609, 87, by
  cases h
  decide +kernel⟩
theorem xo_147 : xoP 147 := fun me h => ⟨96, 1614, 1613, 88, by
  cases h
  decide +kernel⟩
theorem xo_148 : xoP 148 := fun me h => ⟨96, 1606, 1605, 86, by
  cases h
  decide +kernel⟩
theorem xo_149 : xoP 149 := fun me h => ⟨96, 1602, 1600, 1601, by
  cases h
  decide +kernel⟩
theorem xo_150 : xoP 150 := fun me h => ⟨96, 1619, 1617, 1618, by
  cases h
  decide +kernel⟩
theorem xo_151 : xoP 151 := fun me h => ⟨96, 1623, 1621, 1622, by
  cases h
  decide +kernel⟩
theorem xo_152 : xoP 152 := fun me h => ⟨96, 1627, 1625, 1626, by
  cases h
  decide +kernel⟩
theorem xo_153 : xoP 153 := fun me h => ⟨96, 1631, 1629, 1630, by
  cases h
  decide +kernel⟩
theorem xo_154 : xoP 154 := fun me h => ⟨96, 1635, 1633, 1634, by
  cases h
  decide +kernel⟩
theorem xo_155 : xoP 155 := fun me h => ⟨93, 137, 136, 0, by
  cases h
  decide +kernel⟩
theorem xo_156 : xoP 156 := fun me h => ⟨93, 478, 476, 477, by
  cases h
  decide +kernel⟩
theorem xo_157 : xoP 157 := fun me h => ⟨92, 128, 127, 0, by
  cases h
  decide +kernel⟩
theorem xo_158 : xoP 158 := fun me h => ⟨92, 474, 472, 473, by
  cases h
  decide +kernel⟩
theorem xo_159 : xoP 159 := fun me h => ⟨92, 840, 838, 839, by
  cases h
  decide +kernel⟩
theorem xo_160 : xoP 160 := fun me h => ⟨92, 835, 833, 834, by
  cases h
  decide +kernel⟩
theorem xo_161 : xoP 161 := fun me h => ⟨92, 849, 847, 848, by
  cases h
  decide +kernel⟩
theorem xo_162 : xoP 162 := fun me h => ⟨92, 445, 443, 444, by
  cases h
  decide +kernel⟩
theorem xo_163 : xoP 163 := fun me h => ⟨92, 466, 464, 465, by
  cases h
  decide +kernel⟩
theorem xo_164 : xoP 164 := fun me h => ⟨92, 433, 431, 432, by
  cases h
  decide +kernel⟩
theorem xo_165 : xoP 165 := fun me h => ⟨92, 429, 427, 428, by
  cases h
  decide +kernel⟩
theorem xo_166 : xoP 166 := fun me h => ⟨92, 449, 447, 448, by
  cases h
  decide +kernel⟩
theorem xo_167 : xoP 167 := fun me h => ⟨92, 453, 452, 0, by
  cases h
  decide +kernel⟩
theorem xo_168 : xoP 168 := fun me h => ⟨92, 441, 439, 440, by
  cases h
  decide +kernel⟩
theorem xo_169 : xoP 169 := fun me h => ⟨92, 956, 954, 955, by
  cases h
  decide +kernel⟩
theorem xo_170 : xoP 170 := fun me h => ⟨92, 490, 488, 489, by
  cases h
  decide +kernel⟩
theorem xo_171 : xoP 171 := fun me h => ⟨92, 502, 500, 501, by
  cases h
  decide +kernel⟩
theorem xo_172 : xoP 172 := fun me h => ⟨92, 991, 989, 990, by
  cases h
  decide +kernel⟩
theorem xo_173 : xoP 173 := fun me h => ⟨92, 519, 518, 2, by
  cases h
  decide +kernel⟩
theorem xo_174 : xoP 174 := fun me h => ⟨92, 986, 984, 985, by
  cases h
  decide +kernel⟩
theorem xo_175 : xoP 175 := fun me h => ⟨92, 515, 514, 1, by
  cases h
  decide +kernel⟩
theorem xo_176 : xoP 176 := fun me h => ⟨92, 532, 531, 3, by
  cases h
  decide +kernel⟩
theorem xo_177 : xoP 177 := fun me h => ⟨92, 541, 540, 4, by
  cases h
  decide +kernel⟩
theorem xo_178 : xoP 178 := fun me h => ⟨92, 545, 544, 5, by
  cases h
  decide +kernel⟩
theorem xo_179 : xoP 179 := fun me h => ⟨92, 558, 557, 7, by
  cases h
  decide +kernel⟩
theorem xo_180 : xoP 180 := fun me h => ⟨94, 174, 173, 0, by
  cases h
  decide +kernel⟩
theorem xo_181 : xoP 181 := fun me h => ⟨94, 482, 480, 481, by
  cases h
  decide +kernel⟩
theorem xo_182 : xoP 182 := fun me h => ⟨94, 494, 492, 493, by
  cases h
  decide +kernel⟩
theorem xo_183 : xoP 183 := fun me h => ⟨94, 510, 508, 509, by
  cases h
  decide +kernel⟩
theorem xo_184 : xoP 184 := fun me h => ⟨94, 506, 504, 505, by
  cases h
  decide +kernel⟩
theorem xo_185 : xoP 185 := fun me h => ⟨94, 523, 521, 522, by
  cases h
  decide +kernel⟩
theorem xo_186 : xoP 186 := fun me h => ⟨94, 527, 525, 526, by
  cases h
  decide +kernel⟩
theorem xo_187 : xoP 187 := fun me h => ⟨94, 536, 534, 535, by
  cases h
  decide +kernel⟩
theorem xo_188 : xoP 188 := fun me h => ⟨94, 549, 547, 548, by
  cases h
  decide +kernel⟩
theorem xo_189 : xoP 189 := fun me h => ⟨94, 553, 552, 6, by
  cases h
  decide +kernel⟩
theorem xo_190 : xoP 190 := fun me h => ⟨95, 359, 358, 0, by
  cases h
  decide +kernel⟩
theorem xo_191 : xoP 191 := fun me h => ⟨95, 570, 568, 569, by
  cases h
  decide +kernel⟩
theorem xo_192 : xoP 192 := fun me h => ⟨95, 574, 572, 573, by
  cases h
  decide +kernel⟩
theorem xo_193 : xoP 193 := fun me h => ⟨95, 578, 577, 8, by
  cases h
  decide +kernel⟩
theorem xo_194 : xoP 194 := fun me h => ⟨95, 589, 588, 10, by
  cases h
  decide +kernel⟩
theorem xo_195 : xoP 195 := fun me h => ⟨95, 585, 584, 9, by
  cases h
  decide +kernel⟩
theorem xo_196 : xoP 196 := fun me h => ⟨91, 122, 121, 0, by
  cases h
  decide +kernel⟩
theorem xo_197 : xoP 197 := fun me h => ⟨91, 409, 407, 408, by
  cases h
  decide +kernel⟩
theorem xo_198 : xoP 198 := fun me h => ⟨91, 735, 733, 734, by
  cases h
  decide +kernel⟩
theorem xo_199 : xoP 199 := fun me h => ⟨91, 761, 760, 17, by
  cases h
  decide +kernel⟩
theorem xo_200 : xoP 200 := fun me h => ⟨91, 831, 830, 22, by
  cases h
  decide +kernel⟩
theorem xo_201 : xoP 201 := fun me h => ⟨91, 845, 844, 23, by
  cases h
  decide +kernel⟩
theorem xo_202 : xoP 202 := fun me h => ⟨91, 862, 861, 25, by
  cases h
  decide +kernel⟩
theorem xo_203 : xoP 203 := fun me h => ⟨91, 853, 852, 24, by
  cases h
  decide +kernel⟩
theorem xo_204 : xoP 204 := fun me h => ⟨91, 822, 821, 20, by
  cases h
  decide +kernel⟩
theorem xo_205 : xoP 205 := fun me h => ⟨91, 826, 825, 21, by
  cases h
  decide +kernel⟩
theorem xo_206 : xoP 206 := fun me h => ⟨91, 818, 817, 19, by
  cases h
  decide +kernel⟩
theorem xo_207 : xoP 207 := fun me h => ⟨91, 766, 765, 18, by
  cases h
  decide +kernel⟩
theorem xo_208 : xoP 208 := fun me h => ⟨91, 740, 739, 14, by
  cases h
  decide +kernel⟩
theorem xo_209 : xoP 209 := fun me h => ⟨91, 747, 746, 15, by
  cases h
  decide +kernel⟩
theorem xo_210 : xoP 210 := fun me h => ⟨91, 757, 756, 16, by
  cases h
  decide +kernel⟩
theorem xo_211 : xoP 211 := fun me h => ⟨91, 743, 742, 0, by
  cases h
  decide +kernel⟩
theorem xo_212 : xoP 212 := fun me h => ⟨91, 753, 752, 0, by
  cases h
  decide +kernel⟩
theorem xo_213 : xoP 213 := fun me h => ⟨89, 726, 725, 0, by
  cases h
  decide +kernel⟩
theorem xo_214 : xoP 214 := fun me h => ⟨89, 865, 864, 0, by
  cases h
  decide +kernel⟩
theorem xo_215 : xoP 215 := fun me h => ⟨89, 869, 868, 0, by
  cases h
  decide +kernel⟩
theorem xo_216 : xoP 216 := fun me h => ⟨89, 874, 873, 0, by
  cases h
  decide +kernel⟩
theorem xo_217 : xoP 217 := fun me h => ⟨89, 878, 877, 0, by
  cases h
  decide +kernel⟩
theorem xo_218 : xoP 218 := fun me h => ⟨89, 886, 885, 0, by
  cases h
  decide +kernel⟩
theorem xo_219 : xoP 219 := fun me h => ⟨89, 890, 889, 0, by
  cases h
  decide +kernel⟩
theorem xo_220 : xoP 220 := fun me h => ⟨89, 897, 896, 0, by
  cases h
  decide +kernel⟩
theorem xo_221 : xoP 221 := fun me h => ⟨89, 904, 903, 0, by
  cases h
  decide +kernel⟩
theorem xo_222 : xoP 222 := fun me h => ⟨89, 933, 932, 0, by
  cases h
  decide +kernel⟩
theorem xo_223 : xoP 223 := fun me h => ⟨89, 940, 939, 0, by
  cases h
  decide +kernel⟩
theorem xo_224 : xoP 224 := fun me h => ⟨89, 947, 946, 0, by
  cases h
  decide +kernel⟩
theorem xo_225 : xoP 225 := fun me h => ⟨89, 960, 959, 0, by
  cases h
  decide +kernel⟩
theorem xo_226 : xoP 226 := fun me h => ⟨89, 967, 966, 0, by
  cases h
  decide +kernel⟩
theorem xo_227 : xoP 227 := fun me h => ⟨89, 974, 973, 0, by
  cases h
  decide +kernel⟩
theorem xo_228 : xoP 228 := fun me h => ⟨89, 994, 993, 0, by
  cases h
  decide +kernel⟩
theorem xo_229 : xoP 229 := fun me h => ⟨89, 1001, 1000, 0, by
  cases h
  decide +kernel⟩
theorem xo_230 : xoP 230 := fun me h => ⟨89, 1013, 1012, 0, by
  cases h
  decide +kernel⟩
theorem xo_231 : xoP 231 := fun me h => ⟨89, 1020, 1019, 0, by
  cases h
  decide +kernel⟩
theorem xo_232 : xoP 232 := fun me h => ⟨89, 1027, 1026, 0, by
  cases h
  decide +kernel⟩
theorem xo_233 : xoP 233 := fun me h => ⟨89, 1034, 1033, 0, by
  cases h
  decide +kernel⟩
theorem xo_234 : xoP 234 := fun me h => ⟨89, 1042, 1041, 0, by
  cases h
  decide +kernel⟩
theorem xo_235 : xoP 235 := fun me h => ⟨89, 1067, 1066, 0, by
  cases h
  decide +kernel⟩
theorem xo_236 : xoP 236 := fun me h => ⟨89, 1074, 1073, 0, by
  cases h
  decide +kernel⟩
theorem xo_237 : xoP 237 := fun me h => ⟨89, 1081, 1080, 0, by
  cases h
  decide +kernel⟩
theorem xo_238 : xoP 238 := fun me h => ⟨89, 1088, 1087, 0, by
  cases h
  decide +kernel⟩
theorem xog_0 (y : Nat) (h1 : 0 ≤ y) (h2 : y < 20) : xoP y := by
  have h3 : y = 0 ∨ y = 1 ∨ y = 2 ∨ y = 3 ∨ y = 4 ∨ y = 5 ∨ y = 6 ∨ y = 7 ∨ y = 8 ∨ y = 9 ∨ y = 10 ∨ y = 11 ∨ y = 12 ∨ y = 13 ∨ y = 14 ∨ y = 15 ∨ y = 16 ∨ y = 17 ∨ y = 18 ∨ y = 19 := by omega
  rcases h3 with rfl | rfl | rfl | rfl | rfl | rfl | rfl | rfl | rfl | rfl | rfl | rfl | rfl | rfl | rfl | rfl | rfl | rfl | rfl | rfl
  · exact xo_0
  · exact xo_1
  · exact xo_2
  · exact xo_3
  · exact xo_4
  · exact xo_5
  · exact xo_6
  · exact xo_7
  · exact xo_8
  · exact xo_9
  · exact xo_10
  · exact xo_11
  · exact xo_12
  · exact xo_13
  · exact xo_14
  · exact xo_15
  · exact xo_16
  · exact xo_17
  · exact xo_18
  · exact xo_19
theorem xog_1 (y : Nat) (h1 : 20 ≤ y) (h2 : y < 40) : xoP y := by
  have h3 : y = 20 ∨ y = 21 ∨ y = 22 ∨ y = 23 ∨ y = 24 ∨ y = 25 ∨ y = 26 ∨ y = 27 ∨ y = 28 ∨ y = 29 ∨ y = 30 ∨ y = 31 ∨ y = 32 ∨ y = 33 ∨ y = 34 ∨ y = 35 ∨ y = 36 ∨ y = 37 ∨ y = 38 ∨ y = 39 := by omega
  rcases h3 with rfl | rfl | rfl | rfl | rfl | rfl | rfl | rfl | rfl | rfl | rfl | rfl | rfl | rfl | rfl | rfl | rfl | rfl | rfl | rfl
  · exact xo_20
  · exact xo_21
  · exact xo_22
  · exact xo_23
  · exact xo_24
  · exact xo_25
  · exact xo_26
  · exact xo_27
  · exact xo_28
  · exact xo_29
  · exact xo_30
  · exact xo_31
  · exact xo_32
  · exact xo_33
  · exact xo_34
  · exact xo_35
  · exact xo_36
  · exact xo_37
  · exact xo_38
  · exact xo_39
theorem xog_2 (y : Nat) (h1 : 40 ≤ y) (h2 : y < 60) : xoP y := by
  have h3 : y = 40 ∨ y = 41 ∨ y = 42 ∨ y = 43 ∨ y = 44 ∨ y = 45 ∨ y = 46 ∨ y = 47 ∨ y = 48 ∨ y = 49 ∨ y = 50 ∨ y = 51 ∨ y = 52 ∨ y = 53 ∨ y = 54 ∨ y = 55 ∨ y = 56 ∨ y = 57 ∨ y = 58 ∨ y = 59 := by omega
  rcases h3 with rfl | rfl | rfl | rfl | rfl | rfl | rfl | rfl | rfl | rfl | rfl | rfl | rfl | rfl | rfl | rfl | rfl | rfl | rfl | rfl
  · exact xo_40
  · exact xo_41
  · exact xo_42
  · exact xo_43
  · exact xo_44
  · exact xo_45
  · exact xo_46
  · exact xo_47
  · exact xo_48
  · exact xo_49
  · exact xo_50
  · exact xo_51
  · exact xo_52
  · exact xo_53
  · exact xo_54
  · exact xo_55
  · exact xo_56
  · exact xo_57
  · exact xo_58
  · exact xo_59
theorem xog_3 (y : Nat) (h1 : 60 ≤ y) (h2 : y < 80) : xoP y := by
  have h3 : y = 60 ∨ y = 61 ∨ y = 62 ∨ y = 63 ∨ y = 64 ∨ y = 65 ∨ y = 66 ∨ y = 67 ∨ y = 68 ∨ y = 69 ∨ y = 70 ∨ y = 71 ∨ y = 72 ∨ y = 73 ∨ y = 74 ∨ y = 75 ∨ y = 76 ∨ y = 77 ∨ y = 78 ∨ y = 79 := by omega
  rcases h3 with rfl | rfl | rfl | rfl | rfl | rfl | rfl | rfl | rfl | rfl | rfl | rfl | rfl | rfl | rfl | rfl | rfl | rfl | rfl | rfl
  · exact xo_60
  · exact xo_61
  · exact xo_62
  · exact xo_63
  · exact xo_64
  · exact xo_65
  · exact xo_66
  · exact xo_67
  · exact xo_68
  · exact xo_69
  · exact xo_70
  · exact xo_71
  · exact xo_72
  · exact xo_73
  · exact xo_74
  · exact xo_75
  · exact xo_76
  · exact xo_77
  · exact xo_78
  · exact xo_79
theorem xog_4 (y : Nat) (h1 : 80 ≤ y) (h2 : y < 100) : xoP y := by
  have h3 : y = 80 ∨ y = 81 ∨ y = 82 ∨ y = 83 ∨ y = 84 ∨ y = 85 ∨ y = 86 ∨ y = 87 ∨ y = 88 ∨ y = 89 ∨ y = 90 ∨ y = 91 ∨ y = 92 ∨ y = 93 ∨ y = 94 ∨ y = 95 ∨ y = 96 ∨ y = 97 ∨ y = 98 ∨ y = 99 := by omega
  rcases h3 with rfl | rfl | rfl | rfl | rfl | rfl | rfl | rfl | rfl | rfl | rfl | rfl | rfl | rfl | rfl | rfl | rfl | rfl | rfl | rfl
  · exact xo_80
  · exact xo_81
  · exact xo_82
  · exact xo_83
  · exact xo_84
  · exact xo_85
  · exact xo_86
  · exact xo_87
  · exact xo_88
  · exact xo_89
  · exact xo_90
  · exact xo_91
  · exact xo_92
  · exact xo_93
  · exact xo_94
  · exact xo_95
  · exact xo_96
  · exact xo_97
  · exact xo_98
  · exact xo_99
theorem xog_5 (y : Nat) (h1 : 100 ≤ y) (h2 : y < 120) : xoP y := by
  have h3 : y = 100 ∨ y = 101 ∨ y = 102 ∨ y = 103 ∨ y = 104 ∨ y = 105 ∨ y = 106 ∨ y = 107 ∨ y = 108 ∨ y = 109 ∨ y = 110 ∨ y = 111 ∨ y = 112 ∨ y = 113 ∨ y = 114 ∨ y = 115 ∨ y = 116 ∨ y = 117 ∨ y = 118 ∨ y = 119 := by omega
  rcases h3 with rfl | rfl | rfl | rfl | rfl | rfl | rfl | rfl | rfl | rfl | rfl | rfl | rfl | rfl | rfl | rfl | rfl | rfl | rfl | rfl
  · exact xo_100
  · exact xo_101
  · exact xo_102
  · exact xo_103
  · exact xo_104
  · exact xo_105
  · exact xo_106
  · exact xo_107
  · exact xo_108
  · exact xo_109
  · exact xo_110
  · exact xo_111
  · exact xo_112
  · exact xo_113
  · exact xo_114
  · exact xo_115
  · exact xo_116
  · exact xo_117
  · exact xo_118
  · exact xo_119
theorem xog_6 (y : Nat) (h1 : 120 ≤ y) (h2 : y < 140) : xoP y := by
  have h3 : y = 120 ∨ y = 121 ∨ y = 122 ∨ y = 123 ∨ y = 124 ∨ y = 125 ∨ y = 126 ∨ y = 127 ∨ y = 128 ∨ y = 129 ∨ y = 130 ∨ y = 131 ∨ y = 132 ∨ y = 133 ∨ y = 134 ∨ y = 135 ∨ y = 136 ∨ y = 137 ∨ y = 138 ∨ y = 139 := by omega
  rcases h3 with rfl | rfl | rfl | rfl | rfl | rfl | rfl | rfl | rfl | rfl | rfl | rfl | rfl | rfl | rfl | rfl | rfl | rfl | rfl | rfl
  · exact xo_120
  · exact xo_121
  · exact xo_122
  · exact xo_123
  · exact xo_124
  · exact xo_125
  · exact xo_126
  · exact xo_127
  · exact xo_128
  · exact xo_129
  · exact xo_130
  · exact xo_131
  · exact xo_132
  · exact xo_133
  · exact xo_134
  · exact xo_135
  · exact xo_136
  · exact xo_137
  · exact xo_138
  · exact xo_139
theorem xog_7 (y : Nat) (h1 : 140 ≤ y) (h2 : y < 160) : xoP y := by
  have h3 : y = 140 ∨ y = 141 ∨ y = 142 ∨ y = 143 ∨ y = 144 ∨ y = 145 ∨ y = 146 ∨ y = 147 ∨ y = 148 ∨ y = 149 ∨ y = 150 ∨ y = 151 ∨ y = 152 ∨ y = 153 ∨ y = 154 ∨ y = 155 ∨ y = 156 ∨ y = 157 ∨ y = 158 ∨ y = 159 := by omega
  rcases h3 with rfl | rfl | rfl | rfl | rfl | rfl | rfl | rfl | rfl | rfl | rfl | rfl | rfl | rfl | rfl | rfl | rfl | rfl | rfl | rfl
  · exact xo_140
  · exact xo_141
  · exact xo_142
  · exact xo_143
  · exact xo_144
  · exact xo_145
  · exact xo_146
  · exact xo_147
  · exact xo_148
  · exact xo_149
  · exact xo_150
  · exact xo_151
  · exact xo_152
  · exact xo_153
  · exact xo_154
  · exact xo_155
  · exact xo_156
  · exact xo_157
  · exact xo_158
  · exact xo_159
theorem xog_8 (y : Nat) (h1 : 160 ≤ y) (h2 : y < 180) : xoP y := by
  have h3 : y = 160 ∨ y = 161 ∨ y = 162 ∨ y = 163 ∨ y = 164 ∨ y = 165 ∨ y = 166 ∨ y = 167 ∨ y = 168 ∨ y = 169 ∨ y = 170 ∨ y = 171 ∨ y = 172 ∨ y = 173 ∨ y = 174 ∨ y = 175 ∨ y = 176 ∨ y = 177 ∨ y = 178 ∨ y = 179 := by omega
  rcases h3 with rfl | rfl | rfl | rfl | rfl | rfl | rfl | rfl | rfl | rfl | rfl | rfl | rfl | rfl | rfl | rfl | rfl | rfl | rfl | rfl
  · exact xo_160
  · exact xo_161
  · exact xo_162
  · exact xo_163
  · exact xo_164
  · exact xo_165
  · exact xo_166
  · exact xo_167
  · exact xo_168
  · exact xo_169
  · exact xo_170
  · exact xo_171
  · exact xo_172
  · exact xo_173
  · exact xo_174
  · exact xo_175
  · exact xo_176
  · exact xo_177
  · exact xo_178
  · exact xo_179
theorem xog_9 (y : Nat) (h1 : 180 ≤ y) (h2 : y < 200) : xoP y := by
  have h3 : y = 180 ∨ y = 181 ∨ y = 182 ∨ y = 183 ∨ y = 184 ∨ y = 185 ∨ y = 186 ∨ y = 187 ∨ y = 188 ∨ y = 189 ∨ y = 190 ∨ y = 191 ∨ y = 192 ∨ y = 193 ∨ y = 194 ∨ y = 195 ∨ y = 196 ∨ y = 197 ∨ y = 198 ∨ y = 199 := by omega
  rcases h3 with rfl | rfl | rfl | rfl | rfl | rfl | rfl | rfl | rfl | rfl | rfl | rfl | rfl | rfl | rfl | rfl | rfl | rfl | rfl | rfl
  · exact xo_180
  · exact xo_181
  · exact xo_182
  · exact xo_183
  · exact xo_184
  · exact xo_185
  · exact xo_186
  · exact xo_187
  · exact xo_188
  · exact xo_189
  · exact xo_190
  · exact xo_191
  · exact xo_192
  · exact xo_193
  · exact xo_194
  · exact xo_195
  · exact xo_196
  · exact xo_197
  · exact xo_198
  · exact xo_199
theorem xog_10 (y : Nat) (h1 : 200 ≤ y) (h2 : y < 220) : xoP y := by
  have h3 : y = 200 ∨ y = 201 ∨ y = 202 ∨ y = 203 ∨ y = 204 ∨ y = 205 ∨ y = 206 ∨ y = 207 ∨ y = 208 ∨ y = 209 ∨ y = 210 ∨ y = 211 ∨ y = 212 ∨ y = 213 ∨ y = 214 ∨ y = 215 ∨ y = 216 ∨ y = 217 ∨ y = 218 ∨ y = 219 := by omega
  rcases h3 with rfl | rfl | rfl | rfl | rfl | rfl | rfl | rfl | rfl | rfl | rfl | rfl | rfl | rfl | rfl | rfl | rfl | rfl | rfl | rfl
  · exact xo_200
  · exact xo_201
  · exact xo_202
  · exact xo_203
  · exact xo_204
  · exact xo_205
  · exact xo_206
  · exact xo_207
  · exact xo_208
  · exact xo_209
  · exact xo_210
  · exact xo_211
  · exact xo_212
  · exact xo_213
  · exact xo_214
  · exact xo_215
  · exact xo_216
  · exact xo_217
  · exact xo_218
  · exact xo_219
theorem xog_11 (y : Nat) (h1 : 220 ≤ y) (h2 : y < 239) : xoP y := by
  have h3 : y = 220 ∨ y = 221 ∨ y = 222 ∨ y = 223 ∨ y = 224 ∨ y = 225 ∨ y = 226 ∨ y = 227 ∨ y = 228 ∨ y = 229 ∨ y = 230 ∨ y = 231 ∨ y = 232 ∨ y = 233 ∨ y = 234 ∨ y = 235 ∨ y = 236 ∨ y = 237 ∨ y = 238 := by omega
  rcases h3 with rfl | rfl | rfl | rfl | rfl | rfl | rfl | rfl | rfl | rfl | rfl | rfl | rfl | rfl | rfl | rfl | rfl | rfl | rfl
  · exact xo_220
  · exact xo_221
  · exact xo_222
  · exact xo_223
  · exact xo_224
  · exact xo_225
  · exact xo_226
  · exact xo_227
  · exact xo_228
  · exact xo_229
  · exact xo_230
  · exact xo_231
  · exact xo_232
  · exact xo_233
  · exact xo_234
  · exact xo_235
  · exact xo_236
  · exact xo_237
  · exact xo_238
theorem xog (y : Nat) (hy : y < 239) : xoP y := by
  by_cases h0 : y < 20
  · exact xog_0 y (by omega) h0
  by_cases h1 : y < 40
  · exact xog_1 y (by omega) h1
  by_cases h2 : y < 60
  · exact xog_2 y (by omega) h2
  by_cases h3 : y < 80
  · exact xog_3 y (by omega) h3
  by_cases h4 : y < 100
  · exact xog_4 y (by omega) h4
  by_cases h5 : y < 120
  · exact xog_5 y (by omega) h5
  by_cases h6 : y < 140
  · exact xog_6 y (by omega) h6
  by_cases h7 : y < 160
  · exact xog_7 y (by omega) h7
  by_cases h8 : y < 180
  · exact xog_8 y (by omega) h8
  by_cases h9 : y < 200
  · exact xog_9 y (by omega) h9
  by_cases h10 : y < 220
  · exact xog_10 y (by omega) h10
  by_cases h11 : y < 239
  · exact xog_11 y (by omega) h11
  · omega
theorem xo_all : ∀ (y : Nat) (me : xMe), xtab[y]? = some me → y < 239 → ∃ a b c d, xmok me a b c d = true := fun y me h hy => xog y hy me h

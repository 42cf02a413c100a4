/-! the words of class and reference are among the law's -/
theorem lmem {ws big : List Cond} (ps : List Nat) (h : ps.map (fun i => big[i]?) = ws.map some) : ∀ w ∈ ws, w ∈ big := fun w hw => by
  have h1 : some w ∈ ps.map (fun i => big[i]?) := by rw [h]; exact List.mem_map.mpr ⟨w, hw, rfl⟩
  obtain ⟨i, _, hi⟩ := List.mem_map.mp h1
  exact List.mem_of_getElem? hi
set_option maxRecDepth 100000 in
theorem l_gT11_0 : ∀ w ∈ gT11_0, w ∈ lw_tbl := lmem [140, 141, 142, 143, 217, 424, 425, 426, 144, 145, 110, 427, 311, 151, 111, 428, 313, 314, 114, 429, 430, 431, 374, 375, 117, 432, 400, 401, 118, 358, 433, 413, 414, 119, 434, 218, 435, 436, 146, 147, 148, 149, 150, 275, 277, 279, 252, 286, 153, 154, 155, 156, 157, 112, 235, 242, 246, 219, 220, 113] (by decide +kernel)
set_option maxRecDepth 100000 in
theorem l_gT11_1 : ∀ w ∈ gT11_1, w ∈ lw_tbl := lmem [253, 255, 159, 160, 161, 178, 181, 183, 186, 190, 194, 222, 223, 224, 225, 316, 317, 318, 319, 357, 321, 322, 115, 359, 336, 337, 116, 361, 363, 324, 325, 326, 327, 339, 340, 341, 342, 343, 344, 376, 377, 378, 379, 380, 382, 387, 388, 386, 402, 403, 404, 405, 406, 407, 416, 417, 418, 471, 467, 468] (by decide +kernel)
set_option maxRecDepth 100000 in
theorem l_gT11_2 : ∀ w ∈ gT11_2, w ∈ lw_tbl := lmem [470, 0, 109, 643, 644, 124, 278, 364, 276, 236, 710, 711, 712, 713, 282, 287, 284, 793, 809, 811, 824, 834, 840, 842, 714, 716, 8, 717, 718, 536, 125, 537, 719, 539, 540, 280, 281, 720, 721, 722, 723, 163, 169, 174, 238, 244, 250, 227, 724, 726, 9, 727, 283, 285, 728, 730, 10, 731, 732, 733] (by decide +kernel)
set_option maxRecDepth 100000 in
theorem l_gT11_3 : ∀ w ∈ gT11_3, w ∈ lw_tbl := lmem [734, 735, 737, 11, 738, 739, 1983, 741, 742, 743, 126, 744, 1984, 745, 746, 747, 748, 749, 1985, 751, 752, 753, 754, 755, 756, 757, 758, 759, 760, 127, 761, 762, 763, 764, 765, 767, 768, 128, 769, 770, 771, 129, 772, 773, 774, 775, 776, 777, 778, 779, 780, 781, 782, 783, 785, 787, 789, 791, 12, 792] (by decide +kernel)
set_option maxRecDepth 100000 in
theorem l_gT11_4 : ∀ w ∈ gT11_4, w ∈ lw_tbl := lmem [795, 797, 13, 798, 237, 167, 799, 801, 14, 802, 803, 805, 15, 806, 807, 547, 548, 549, 808, 542, 543, 544, 545, 546, 813, 815, 16, 816, 173, 240, 188, 192, 818, 197, 817, 559, 560, 820, 822, 17, 823, 826, 828, 18, 829, 245, 830, 832, 19, 833, 243, 836, 838, 20, 839, 251, 249, 844, 846, 21] (by decide +kernel)
set_option maxRecDepth 100000 in
theorem l_gT11_5 : ∀ w ∈ gT11_5, w ∈ lw_tbl := lmem [847, 257, 229, 848, 850, 22, 851, 892, 852, 854, 23, 886, 887, 888, 889, 226, 855, 890, 856, 858, 24, 859, 860, 862, 864, 25, 877, 878, 880, 29, 881, 882, 884, 30, 885, 1986, 1987, 1988, 873, 874, 876, 28, 869, 870, 872, 27, 865, 866, 868, 26, 894, 895, 896, 897, 899, 490, 489, 132, 898, 501] (by decide +kernel)
set_option maxRecDepth 100000 in
theorem l_gT11_6 : ∀ w ∈ gT11_6, w ∈ lw_tbl := lmem [502, 503, 164, 170, 176, 495, 900, 901, 902, 903, 904, 905, 906, 907, 908, 329, 346, 621, 475, 916, 945, 134, 166, 172, 177, 247, 360, 330, 362, 347, 917, 509, 510, 511, 918, 919, 920, 921, 922, 923, 133, 924, 925, 926, 927, 928, 929, 930, 931, 932, 933, 934, 935, 936, 937, 938, 939, 558, 587, 577] (by decide +kernel)
set_option maxRecDepth 100000 in
theorem l_gT11_7 : ∀ w ∈ gT11_7, w ∈ lw_tbl := lmem [578, 579, 580, 581, 582, 940, 941, 942, 943, 944, 971, 967, 180, 182, 185, 968, 970, 31, 973, 974, 975, 976, 977, 978, 979, 980, 992, 988, 187, 191, 196, 239, 989, 991, 32, 994, 483, 479, 383, 480, 482, 1, 484, 485, 486, 487, 328, 488, 491, 492, 493, 494, 496, 497, 498, 499, 384, 500, 504, 505] (by decide +kernel)
set_option maxRecDepth 100000 in
theorem l_gT11_8 : ∀ w ∈ gT11_8, w ∈ lw_tbl := lmem [506, 507, 175, 508, 512, 513, 514, 515, 516, 518, 2, 519, 165, 184, 254, 228, 535, 538, 520, 521, 522, 523, 524, 526, 3, 527, 528, 529, 530, 531, 532, 533, 534, 541, 550, 552, 4, 553, 171, 189, 193, 241, 248, 554, 555, 556, 557, 561, 562, 563, 564, 565, 566, 567, 569, 5, 570, 195, 571, 573] (by decide +kernel)
set_option maxRecDepth 100000 in
theorem l_gT11_9 : ∀ w ∈ gT11_9, w ∈ lw_tbl := lmem [6, 574, 256, 575, 576, 583, 584, 585, 586, 588, 1002, 1003, 1004, 1005, 1006, 1013, 1020, 1027, 592, 593, 594, 595, 596, 597, 598, 599, 600, 1037, 1045, 1042, 1043, 1044, 1034, 1035, 1036, 1039, 1041, 33, 1053, 1054, 1055, 1062, 1063, 1064, 1065, 1066, 1073, 1080, 1087, 1094, 1101, 1102, 1103, 1104, 1105, 162, 168, 1106, 1108, 1107] (by decide +kernel)
set_option maxRecDepth 100000 in
theorem l_gT11_10 : ∀ w ∈ gT11_10, w ∈ lw_tbl := lmem [1109, 1111, 34, 1112, 1113, 1115, 35, 1116, 1117, 1118, 1119, 1120, 1121, 1122, 1123, 1124, 1125, 1126, 1127, 1129, 36, 1130, 1141, 1137, 1138, 1140, 37, 1148, 1149, 1150, 1151, 1152, 1153, 1160, 1167, 1168, 1169, 1170, 1171, 1172, 1173, 1174, 1175, 1182, 604, 605, 606, 607, 608, 1189, 1190, 1191, 1192, 1193, 345, 1222, 1218, 1219, 1221, 39] (by decide +kernel)
set_option maxRecDepth 100000 in
theorem l_gT11_11 : ∀ w ∈ gT11_11, w ∈ lw_tbl := lmem [1201, 1202, 1203, 1204, 1205, 1206, 1207, 1208, 1209, 1210, 1211, 1212, 1213, 179, 1214, 1200, 1215, 1217, 38, 1236, 1229, 1230, 1231, 135, 1232, 1233, 1235, 40, 612, 1247, 1251, 1252, 1243, 1245, 1246, 1248, 1250, 41, 1264, 1265, 1266, 1267, 1268, 1269, 1270, 1271, 1272, 1273, 1274, 1275, 1279, 1259, 1261, 1263, 42, 1276, 1278, 43, 1286, 420] (by decide +kernel)
set_option maxRecDepth 100000 in
theorem l_gT11_12 : ∀ w ∈ gT11_12, w ∈ lw_tbl := lmem [385, 1287, 1288, 1289, 1290, 1291, 1292, 1293, 1294, 419, 1295, 1296, 616, 617, 618, 619, 620, 631, 622, 623, 624, 625, 626, 627, 628, 629, 630, 635] (by decide +kernel)
set_option maxRecDepth 100000 in
theorem l_gT11_X0 : ∀ w ∈ wsX00, w ∈ lw_tbl := lmem [331, 333] (by decide +kernel)
set_option maxRecDepth 100000 in
theorem l_gT11_X1 : ∀ w ∈ wsX10, w ∈ lw_tbl := lmem [421] (by decide +kernel)
set_option maxRecDepth 100000 in
theorem l_gT11_X2 : ∀ w ∈ wsX20, w ∈ lw_tbl := lmem [365, 367, 369, 371] (by decide +kernel)
set_option maxRecDepth 100000 in
theorem l_gT11_X3 : ∀ w ∈ wsX30, w ∈ lw_tbl := lmem [258, 260, 262, 264, 266, 268, 270, 272] (by decide +kernel)
set_option maxRecDepth 100000 in
theorem l_gT11_X4 : ∀ w ∈ wsX40, w ∈ lw_tbl := lmem [288, 290, 292, 294, 296, 298, 300, 302, 304, 306, 308] (by decide +kernel)
set_option maxRecDepth 100000 in
theorem l_gT11_X5 : ∀ w ∈ wsX50, w ∈ lw_tbl := lmem [230, 232] (by decide +kernel)
set_option maxRecDepth 100000 in
theorem l_gT11_X6 : ∀ w ∈ wsX60, w ∈ lw_tbl := lmem [408, 410] (by decide +kernel)
set_option maxRecDepth 100000 in
theorem l_gT11_X7 : ∀ w ∈ wsX70, w ∈ lw_tbl := lmem [348, 350, 352, 354] (by decide +kernel)
set_option maxRecDepth 100000 in
theorem l_gT11_X8 : ∀ w ∈ wsX80, w ∈ lw_tbl := lmem [198, 200, 202, 204, 206, 208, 210, 212, 214] (by decide +kernel)
set_option maxRecDepth 100000 in
theorem l_gT11_X9 : ∀ w ∈ wsX90, w ∈ lw_tbl := lmem [389, 391, 393, 395, 397] (by decide +kernel)
set_option maxRecDepth 100000 in
theorem l_gT11_X11 : ∀ w ∈ wsX110, w ∈ lw_tbl := lmem [437, 439, 441, 443, 445, 447, 449, 451, 453, 455, 457, 459, 461] (by decide +kernel)
set_option maxRecDepth 100000 in
theorem l_gT11_xI : ∀ w ∈ (vx_atS RX11 94 "java/lang/IllegalArgumentException" ["java/lang/RuntimeException", "java/lang/Exception"]).filter goodWord, w ∈ lw_tbl := by first | exact lmem [121, 666, 675, 678, 681, 683, 667, 668, 142, 143, 669, 674, 679, 699, 656, 700, 658, 701, 660, 670, 672, 662, 695, 696, 698, 662, 686, 687, 688, 689, 689, 690, 691, 692, 692, 693, 694, 695, 685, 645, 653, 654, 655, 657, 659, 661, 665, 664, 663] (by decide +kernel) | decide +kernel
set_option maxRecDepth 100000 in
theorem l_gT11_xN : ∀ w ∈ atN.filter goodWord, w ∈ lw_tbl := by first | exact lmem [121, 666, 675, 678, 681, 683, 667, 668, 142, 143, 669, 674, 679, 699, 656, 700, 658, 701, 660, 670, 672, 662, 695, 696, 698, 662, 956, 689, 689, 690, 691, 692, 692, 693, 694, 695, 955, 946, 948, 677, 949, 950, 951, 952, 665, 664, 953, 956, 957, 958, 689] (by decide +kernel) | decide +kernel
theorem l_gT11 : ∀ w ∈ gT11, w ∈ lw_tbl := by
  show ∀ w ∈ gT11_0 ++ (gT11_1 ++ (gT11_2 ++ (gT11_3 ++ (gT11_4 ++ (gT11_5 ++ (gT11_6 ++ (gT11_7 ++ (gT11_8 ++ (gT11_9 ++ (gT11_10 ++ (gT11_11 ++ (gT11_12 ++ (wsX00 ++ (wsX10 ++ (wsX20 ++ (wsX30 ++ (wsX40 ++ (wsX50 ++ (wsX60 ++ (wsX70 ++ (wsX80 ++ (wsX90 ++ (wsX110 ++ ((vx_atS RX11 94 "java/lang/IllegalArgumentException" ["java/lang/RuntimeException", "java/lang/Exception"]).filter goodWord ++ (atN.filter goodWord))))))))))))))))))))))))), w ∈ lw_tbl
  exact List.forall_mem_append.mpr ⟨l_gT11_0, List.forall_mem_append.mpr ⟨l_gT11_1, List.forall_mem_append.mpr ⟨l_gT11_2, List.forall_mem_append.mpr ⟨l_gT11_3, List.forall_mem_append.mpr ⟨l_gT11_4, List.forall_mem_append.mpr ⟨l_gT11_5, List.forall_mem_append.mpr ⟨l_gT11_6, List.forall_mem_append.mpr ⟨l_gT11_7, List.forall_mem_append.mpr ⟨l_gT11_8, List.forall_mem_append.mpr ⟨l_gT11_9, List.forall_mem_append.mpr ⟨l_gT11_10, List.forall_mem_append.mpr ⟨l_gT11_11, List.forall_mem_append.mpr ⟨l_gT11_12, List.forall_mem_append.mpr ⟨l_gT11_X0, List.forall_mem_append.mpr ⟨l_gT11_X1, List.forall_mem_append.mpr ⟨l_gT11_X2, List.forall_mem_append.mpr ⟨l_gT11_X3, List.forall_mem_append.mpr ⟨l_gT11_X4, List.forall_mem_append.mpr ⟨l_gT11_X5, List.forall_mem_append.mpr ⟨l_gT11_X6, List.forall_mem_append.mpr ⟨l_gT11_X7, List.forall_mem_append.mpr ⟨l_gT11_X8, List.forall_mem_append.mpr ⟨l_gT11_X9, List.forall_mem_append.mpr ⟨l_gT11_X11, List.forall_mem_append.mpr ⟨l_gT11_xI, l_gT11_xN⟩⟩⟩⟩⟩⟩⟩⟩⟩⟩⟩⟩⟩⟩⟩⟩⟩⟩⟩⟩⟩⟩⟩⟩⟩
set_option maxRecDepth 100000 in
theorem l_gT12_0 : ∀ w ∈ gT12_0, w ∈ lw_tbl := lmem [1301, 1302, 142, 143, 1303, 1314, 1315, 1316, 1317, 218, 1319, 1320, 1321, 1322, 1323, 1324, 1325, 1326, 1327, 1328, 1329, 1330, 1331, 1332, 1342, 1344, 1345, 1346, 1347, 1348, 1349, 1350, 1351, 1352, 1356, 1357, 1359, 1360, 1361, 1362, 1363, 1364, 1365, 1366, 1368, 1373, 1374, 1375, 1376, 1377, 1378, 1525, 1318, 1797, 1693, 1681, 1918, 1690, 1691, 1692] (by decide +kernel)
set_option maxRecDepth 100000 in
theorem l_gT12_1 : ∀ w ∈ gT12_1, w ∈ lw_tbl := lmem [120, 1709, 1517, 1333, 1533, 1335, 1536, 1539, 1544, 1529, 1334, 1338, 1336, 1337, 1540, 1541, 536, 125, 537, 1339, 1530, 1532, 46, 1534, 1535, 1537, 1538, 1542, 1543, 1565, 1340, 1341, 1556, 1557, 742, 743, 126, 744, 1984, 745, 746, 747, 748, 749, 1985, 1558, 752, 753, 754, 755, 756, 757, 758, 759, 760, 127, 761, 762, 763, 764] (by decide +kernel)
set_option maxRecDepth 100000 in
theorem l_gT12_2 : ∀ w ∈ gT12_2, w ∈ lw_tbl := lmem [765, 767, 768, 128, 769, 770, 771, 129, 772, 773, 774, 775, 776, 777, 778, 779, 780, 781, 782, 783, 785, 787, 1552, 1553, 1555, 49, 1589, 1618, 1586, 1588, 56, 1562, 1564, 50, 1526, 1528, 45, 1581, 1577, 1578, 1580, 54, 1614, 1343, 1593, 1594, 1596, 58, 1611, 1613, 62, 1585, 1590, 1592, 57, 1597, 1599, 1601, 59, 1610] (by decide +kernel)
set_option maxRecDepth 100000 in
theorem l_gT12_3 : ∀ w ∈ gT12_3, w ∈ lw_tbl := lmem [1574, 1576, 53, 1549, 1551, 48, 1615, 1617, 63, 1582, 1584, 55, 1606, 1607, 1609, 61, 1602, 1603, 1605, 60, 1628, 1634, 1625, 1627, 65, 1624, 1573, 1569, 1570, 1572, 52, 1548, 1566, 1568, 51, 1621, 1623, 64, 1631, 1633, 66, 1641, 1638, 1353, 1354, 1355, 1370, 1639, 1640, 1521, 1522, 1524, 44, 1545, 1547, 47, 1635, 1637, 67, 1645] (by decide +kernel)
set_option maxRecDepth 100000 in
theorem l_gT12_4 : ∀ w ∈ gT12_4, w ∈ lw_tbl := lmem [1726, 1810, 1753, 1750, 1751, 1752, 1697, 1772, 1674, 581, 582, 1653, 1746, 1742, 1682, 539, 540, 1743, 1745, 86, 1747, 1749, 87, 1768, 1769, 1771, 91, 1738, 1694, 1696, 76, 1739, 1741, 85, 1760, 1757, 1758, 1759, 1776, 1764, 1358, 1765, 1767, 90, 1773, 1775, 92, 1734, 1735, 1737, 84, 1754, 1756, 88, 1761, 1763, 89, 1730, 1650, 1652] (by decide +kernel)
set_option maxRecDepth 100000 in
theorem l_gT12_5 : ∀ w ∈ gT12_5, w ∈ lw_tbl := lmem [68, 1731, 1733, 83, 1657, 1661, 1665, 1701, 1673, 1669, 1670, 1672, 73, 1678, 1654, 1656, 69, 1679, 1680, 1649, 1658, 1660, 70, 1662, 1664, 71, 1666, 1668, 72, 1675, 1677, 74, 1686, 1687, 1689, 75, 1698, 1700, 77, 1705, 1706, 1708, 78, 1718, 1722, 1723, 1725, 81, 1713, 1714, 1715, 1717, 79, 1719, 1721, 80, 1727, 1729, 82, 1785] (by decide +kernel)
set_option maxRecDepth 100000 in
theorem l_gT12_6 : ∀ w ∈ gT12_6, w ∈ lw_tbl := lmem [1780, 1781, 1782, 1784, 93, 1789, 1793, 1794, 1796, 94, 1801, 1802, 1806, 1807, 1809, 95, 1814, 1815, 1816, 1820, 1821, 1829, 1825, 1826, 1828, 96, 1833, 1834, 1838, 1842, 1850, 1854, 1846, 1847, 1849, 97, 1851, 1853, 98, 1858, 1862, 1866, 1878, 1874, 1875, 1877, 100, 1870, 1871, 1873, 99, 1882, 1883, 1891, 1887, 1888, 1890, 101, 1895, 1899] (by decide +kernel)
set_option maxRecDepth 100000 in
theorem l_gT12_7 : ∀ w ∈ gT12_7, w ∈ lw_tbl := lmem [1907, 1911, 1367, 1904, 1906, 102, 1903, 1908, 1910, 103, 1915, 1916, 1917, 1922, 1926, 1927, 1939, 1935, 1936, 1938, 105, 1931, 1932, 1934, 104, 1951, 1369, 1952, 1947, 1948, 1950, 107, 1943, 1944, 1946, 106, 1959, 1956, 1371, 1372, 1957, 1958, 1963] (by decide +kernel)
set_option maxRecDepth 100000 in
theorem l_gT12_X12 : ∀ w ∈ wsX120, w ∈ lw_tbl := lmem [1379, 1381, 1383, 1385, 1387, 1389, 1391, 1393, 1395, 1397, 1399, 1401, 1403, 1405, 1407, 1409, 1411, 1413, 1415, 1417, 1419, 1421, 1423, 1425, 1427, 1429, 1431, 1433, 1435, 1437, 1439, 1441, 1443, 1445, 1447, 1449, 1451, 1453, 1455, 1457, 1459, 1461, 1463, 1465, 1467, 1469, 1471, 1473, 1475, 1477, 1479, 1481, 1483, 1485, 1487, 1489, 1491, 1493, 1495, 1497, 1499, 1501, 1503, 1505, 1507] (by decide +kernel)
theorem l_gT12 : ∀ w ∈ gT12, w ∈ lw_tbl := by
  show ∀ w ∈ gT12_0 ++ (gT12_1 ++ (gT12_2 ++ (gT12_3 ++ (gT12_4 ++ (gT12_5 ++ (gT12_6 ++ (gT12_7 ++ (wsX120)))))))), w ∈ lw_tbl
  exact List.forall_mem_append.mpr ⟨l_gT12_0, List.forall_mem_append.mpr ⟨l_gT12_1, List.forall_mem_append.mpr ⟨l_gT12_2, List.forall_mem_append.mpr ⟨l_gT12_3, List.forall_mem_append.mpr ⟨l_gT12_4, List.forall_mem_append.mpr ⟨l_gT12_5, List.forall_mem_append.mpr ⟨l_gT12_6, List.forall_mem_append.mpr ⟨l_gT12_7, l_gT12_X12⟩⟩⟩⟩⟩⟩⟩⟩
set_option maxRecDepth 100000 in
theorem l_gTL0 : ∀ w ∈ gTL0, w ∈ lw_tbl := lmem [639, 912, 109, 640, 641, 642, 913, 914, 915, 964, 965, 966, 985, 986, 987, 999, 1000, 1001, 1010, 1011, 1012, 1017, 1018, 1019, 1024, 1025, 1026, 1031, 1032, 1033, 1050, 1051, 1052, 1059, 1060, 1061, 1070, 1071, 1072, 1077, 1078, 1079, 1084, 1085, 1086, 1091, 1092, 1093, 1098, 1099, 1100, 1134, 1135, 1136, 1145, 1146, 1147, 1157, 1158, 1159, 1164, 1165, 1166, 1179, 1180, 1181, 1186, 1187, 1188, 1197, 1198, 1199, 1226, 1227, 1228, 1240, 1241, 1242, 1256, 1257, 1258, 1283, 1284, 1285] (by decide +kernel)
theorem l_gTL : ∀ w ∈ gTL, w ∈ lw_tbl := List.forall_mem_append.mpr ⟨l_gTL0, l_gT11⟩

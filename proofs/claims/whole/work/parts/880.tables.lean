theorem mem_r {big : List Cond} (ws : List Cond) (ps : List Nat) (hp : ws = ps.filterMap (fun i => big[i]?)) : ∀ w ∈ ws, w ∈ big := by
  intro w hw
  rw [hp] at hw
  obtain ⟨i, -, hi⟩ := List.mem_filterMap.mp hw
  exact List.mem_of_getElem? hi
theorem mem_app {big a b : List Cond} (ha : ∀ w ∈ a, w ∈ big) (hb : ∀ w ∈ b, w ∈ big) : ∀ w ∈ a ++ b, w ∈ big := fun w h => (List.mem_append.mp h).elim (ha w) (hb w)
set_option maxRecDepth 20000 in
theorem in_wsL_law_r1 : ∀ w ∈ wsL_law_r1, w ∈ lw_tbl := mem_r _ [130, 131, 110, 1412, 1413, 125, 2127, 132, 133, 134, 135, 136, 137, 138, 139, 111, 518, 214, 215, 112, 519, 520, 521, 261] (by decide +kernel)
set_option maxRecDepth 20000 in
theorem in_wsL_law_r2 : ∀ w ∈ wsL_law_r2, w ∈ lw_tbl := mem_r _ [262, 113, 522, 523, 524, 278, 279, 114, 525, 295, 296, 115, 526, 411, 412, 120, 527, 430, 431, 121, 528, 455, 456, 122] (by decide +kernel)
set_option maxRecDepth 20000 in
theorem in_wsL_law_r3 : ∀ w ∈ wsL_law_r3, w ∈ lw_tbl := mem_r _ [529, 530, 498, 462, 123, 531, 500, 501, 124, 532, 533, 534, 535, 536, 141, 142, 143, 212, 144, 213, 146, 149, 152, 156] (by decide +kernel)
set_option maxRecDepth 20000 in
theorem in_wsL_law_r4 : ∀ w ∈ wsL_law_r4, w ∈ lw_tbl := mem_r _ [160, 163, 165, 166, 170, 174, 176, 178, 181, 217, 218, 219, 220, 223, 226, 229, 232, 235, 238, 241, 264, 265, 266, 267] (by decide +kernel)
set_option maxRecDepth 20000 in
theorem in_wsL_law_r5 : ∀ w ∈ wsL_law_r5, w ∈ lw_tbl := mem_r _ [271, 269, 272, 280, 281, 282, 283, 284, 285, 287, 297, 298, 299, 300, 410, 354, 355, 356, 358, 359, 361, 363, 301, 364] (by decide +kernel)
set_option maxRecDepth 20000 in
theorem in_wsL_law_r6 : ∀ w ∈ wsL_law_r6, w ∈ lw_tbl := mem_r _ [366, 369, 371, 374, 377, 379, 303, 304, 305, 116, 306, 2128, 307, 308, 309, 310, 311, 2129, 313, 314, 315, 316, 317, 318] (by decide +kernel)
set_option maxRecDepth 20000 in
theorem in_wsL_law_r7 : ∀ w ∈ wsL_law_r7, w ∈ lw_tbl := mem_r _ [319, 320, 321, 322, 117, 323, 324, 325, 326, 327, 329, 330, 118, 331, 332, 333, 119, 334, 335, 336, 337, 338, 339, 340] (by decide +kernel)
set_option maxRecDepth 20000 in
theorem in_wsL_law_r8 : ∀ w ∈ wsL_law_r8, w ∈ lw_tbl := mem_r _ [341, 342, 343, 344, 345, 347, 349, 351, 352, 353, 413, 414, 415, 416, 419, 420, 417, 418, 432, 433, 434, 435, 439, 440] (by decide +kernel)
set_option maxRecDepth 20000 in
theorem in_wsL_law_r9 : ∀ w ∈ wsL_law_r9, w ∈ lw_tbl := mem_r _ [441, 436, 437, 438, 458, 459, 460, 461, 471, 472, 473, 475, 477, 479, 481, 464, 465, 466, 467, 503, 504, 505, 506, 507] (by decide +kernel)
set_option maxRecDepth 20000 in
theorem in_wsL_law_r10 : ∀ w ∈ wsL_law_r10, w ∈ lw_tbl := mem_r _ [509, 1414, 1415, 1416, 1417, 1422, 1423, 1426, 1427, 1428, 1429, 1430, 1431, 1438, 1439, 1443, 1447, 1451, 1452, 1455, 1456, 1457, 1418, 1420] (by decide +kernel)
set_option maxRecDepth 20000 in
theorem in_wsL_law_r11 : ∀ w ∈ wsL_law_r11, w ∈ lw_tbl := mem_r _ [43, 1421, 576, 577, 578, 579, 1537, 1538, 1539, 1540, 1424, 580, 581, 582, 583, 1541, 1542, 1543, 1544, 1425, 584, 585, 586, 587] (by decide +kernel)
set_option maxRecDepth 20000 in
theorem in_wsL_law_r12 : ∀ w ∈ wsL_law_r12, w ∈ lw_tbl := mem_r _ [1545, 1546, 1547, 1548, 588, 589, 590, 591, 592, 593, 594, 595, 596, 597, 598, 600, 0, 601, 602, 603, 604, 605, 606, 608] (by decide +kernel)
set_option maxRecDepth 20000 in
theorem in_wsL_law_r13 : ∀ w ∈ wsL_law_r13, w ∈ lw_tbl := mem_r _ [1, 609, 1549, 1550, 1551, 1552, 1553, 1554, 1555, 1556, 1558, 44, 1559, 610, 611, 612, 613, 614, 616, 2, 617, 618, 619, 620] (by decide +kernel)
set_option maxRecDepth 20000 in
theorem in_wsL_law_r14 : ∀ w ∈ wsL_law_r14, w ∈ lw_tbl := mem_r _ [621, 622, 623, 624, 625, 626, 627, 628, 629, 630, 631, 632, 1560, 1561, 1562, 1563, 1564, 1566, 45, 1567, 1568, 1569, 1570, 633] (by decide +kernel)
set_option maxRecDepth 20000 in
theorem in_wsL_law_r15 : ∀ w ∈ wsL_law_r15, w ∈ lw_tbl := mem_r _ [634, 635, 636, 637, 639, 3, 640, 641, 642, 643, 644, 1571, 1572, 1573, 1574, 1575, 645, 646, 647, 648, 649, 650, 651, 652] (by decide +kernel)
set_option maxRecDepth 20000 in
theorem in_wsL_law_r16 : ∀ w ∈ wsL_law_r16, w ∈ lw_tbl := mem_r _ [653, 655, 654, 126, 1576, 1577, 1578, 1579, 656, 657, 658, 659, 660, 661, 662, 663, 1580, 1581, 1582, 1583, 1432, 1584, 1586, 46] (by decide +kernel)
set_option maxRecDepth 20000 in
theorem in_wsL_law_r17 : ∀ w ∈ wsL_law_r17, w ∈ lw_tbl := mem_r _ [1587, 664, 665, 666, 667, 668, 669, 670, 671, 672, 673, 674, 675, 676, 677, 678, 679, 680, 681, 682, 683, 684, 685, 686] (by decide +kernel)
set_option maxRecDepth 20000 in
theorem in_wsL_law_r18 : ∀ w ∈ wsL_law_r18, w ∈ lw_tbl := mem_r _ [687, 689, 4, 690, 691, 693, 5, 694, 695, 696, 697, 698, 699, 700, 701, 702, 703, 705, 6, 706, 707, 709, 7, 710] (by decide +kernel)
set_option maxRecDepth 20000 in
theorem in_wsL_law_r19 : ∀ w ∈ wsL_law_r19, w ∈ lw_tbl := mem_r _ [711, 712, 713, 714, 715, 716, 717, 718, 719, 720, 721, 723, 8, 724, 725, 726, 727, 728, 730, 731, 732, 733, 734, 735] (by decide +kernel)
set_option maxRecDepth 20000 in
theorem in_wsL_law_r20 : ∀ w ∈ wsL_law_r20, w ∈ lw_tbl := mem_r _ [737, 739, 9, 740, 741, 743, 10, 744, 745, 747, 11, 748, 749, 750, 751, 752, 753, 754, 755, 756, 757, 758, 759, 760] (by decide +kernel)
set_option maxRecDepth 20000 in
theorem in_wsL_law_r21 : ∀ w ∈ wsL_law_r21, w ∈ lw_tbl := mem_r _ [761, 762, 763, 764, 766, 12, 767, 768, 769, 770, 771, 772, 773, 774, 775, 776, 777, 778, 779, 780, 781, 782, 783, 784] (by decide +kernel)
set_option maxRecDepth 20000 in
theorem in_wsL_law_r22 : ∀ w ∈ wsL_law_r22, w ∈ lw_tbl := mem_r _ [785, 787, 13, 788, 790, 791, 792, 793, 794, 795, 796, 797, 798, 799, 800, 801, 802, 803, 804, 805, 806, 808, 14, 809] (by decide +kernel)
set_option maxRecDepth 20000 in
theorem in_wsL_law_r23 : ∀ w ∈ wsL_law_r23, w ∈ lw_tbl := mem_r _ [810, 811, 812, 813, 815, 816, 817, 819, 15, 820, 821, 822, 127, 823, 825, 826, 827, 828, 829, 830, 831, 832, 833, 834] (by decide +kernel)
set_option maxRecDepth 20000 in
theorem in_wsL_law_r24 : ∀ w ∈ wsL_law_r24, w ∈ lw_tbl := mem_r _ [835, 836, 838, 16, 839, 1592, 1593, 1594, 1595, 1442, 1434, 1440, 1596, 1598, 47, 1599, 1433, 1436, 1441, 1600, 1602, 48, 1603, 1435] (by decide +kernel)
set_option maxRecDepth 20000 in
theorem in_wsL_law_r25 : ∀ w ∈ wsL_law_r25, w ∈ lw_tbl := mem_r _ [1437, 1614, 1615, 1604, 1606, 49, 1607, 1608, 1609, 1610, 1611, 1612, 1613, 1616, 1618, 50, 1619, 1620, 1622, 51, 1623, 1625, 1627, 52] (by decide +kernel)
set_option maxRecDepth 20000 in
theorem in_wsL_law_r26 : ∀ w ∈ wsL_law_r26, w ∈ lw_tbl := mem_r _ [1628, 1629, 1630, 1631, 1633, 53, 1634, 1666, 1635, 1636, 1637, 1638, 1640, 54, 1641, 1642, 1644, 55, 1645, 1646, 1648, 56, 1649, 1650] (by decide +kernel)
set_option maxRecDepth 20000 in
theorem in_wsL_law_r27 : ∀ w ∈ wsL_law_r27, w ∈ lw_tbl := mem_r _ [1652, 57, 1653, 1654, 1656, 58, 1657, 1658, 1660, 59, 1661, 1662, 1664, 60, 1665, 1667, 1669, 61, 1670, 1671, 1673, 62, 1674, 1675] (by decide +kernel)
set_option maxRecDepth 20000 in
theorem in_wsL_law_r28 : ∀ w ∈ wsL_law_r28, w ∈ lw_tbl := mem_r _ [1677, 63, 1678, 1679, 1680, 1681, 1682, 1684, 64, 1685, 1686, 1688, 65, 1689, 1690, 1692, 66, 1693, 1694, 1695, 1696, 1697, 1699, 67] (by decide +kernel)
set_option maxRecDepth 20000 in
theorem in_wsL_law_r29 : ∀ w ∈ wsL_law_r29, w ∈ lw_tbl := mem_r _ [1700, 1701, 1703, 68, 1704, 1705, 1707, 69, 1708, 1709, 1711, 70, 1712, 1713, 1715, 71, 1716, 1717, 1719, 72, 1720, 1721, 1723, 73] (by decide +kernel)
set_option maxRecDepth 20000 in
theorem in_wsL_law_r30 : ∀ w ∈ wsL_law_r30, w ∈ lw_tbl := mem_r _ [1724, 840, 841, 842, 843, 844, 845, 846, 847, 848, 849, 850, 851, 853, 17, 854, 855, 856, 857, 859, 18, 860, 861, 862] (by decide +kernel)
set_option maxRecDepth 20000 in
theorem in_wsL_law_r31 : ∀ w ∈ wsL_law_r31, w ∈ lw_tbl := mem_r _ [863, 864, 866, 19, 867, 868, 869, 871, 20, 872, 873, 874, 875, 877, 21, 878, 879, 881, 22, 882, 883, 884, 886, 23] (by decide +kernel)
set_option maxRecDepth 20000 in
theorem in_wsL_law_r32 : ∀ w ∈ wsL_law_r32, w ∈ lw_tbl := mem_r _ [887, 888, 889, 890, 891, 892, 893, 1725, 1726, 1727, 1728, 1444, 1445, 1729, 1731, 74, 1732, 1733, 1735, 75, 1736, 1737, 1739, 76] (by decide +kernel)
set_option maxRecDepth 20000 in
theorem in_wsL_law_r33 : ∀ w ∈ wsL_law_r33, w ∈ lw_tbl := mem_r _ [1740, 1741, 1743, 77, 1744, 894, 895, 896, 897, 1588, 1589, 1590, 1591, 898, 899, 900, 901, 902, 903, 128, 904, 905, 906, 907] (by decide +kernel)
set_option maxRecDepth 20000 in
theorem in_wsL_law_r34 : ∀ w ∈ wsL_law_r34, w ∈ lw_tbl := mem_r _ [1745, 1746, 1747, 1748, 1749, 1751, 78, 1752, 908, 909, 910, 911, 912, 914, 24, 915, 916, 917, 1753, 1754, 1755, 1756, 1757, 1759] (by decide +kernel)
set_option maxRecDepth 20000 in
theorem in_wsL_law_r35 : ∀ w ∈ wsL_law_r35, w ∈ lw_tbl := mem_r _ [79, 1760, 918, 919, 920, 921, 922, 923, 924, 925, 1761, 1762, 1763, 1764, 926, 927, 928, 929, 930, 932, 25, 933, 934, 935] (by decide +kernel)
set_option maxRecDepth 20000 in
theorem in_wsL_law_r36 : ∀ w ∈ wsL_law_r36, w ∈ lw_tbl := mem_r _ [936, 937, 1765, 1766, 1767, 1768, 938, 939, 940, 941, 942, 1769, 1770, 1771, 1772, 1773, 1775, 80, 1776, 943, 944, 945, 946, 947] (by decide +kernel)
set_option maxRecDepth 20000 in
theorem in_wsL_law_r37 : ∀ w ∈ wsL_law_r37, w ∈ lw_tbl := mem_r _ [948, 949, 950, 1777, 1778, 1779, 1780, 951, 952, 953, 954, 955, 956, 957, 958, 1781, 1782, 1783, 1784, 959, 960, 961, 962, 963] (by decide +kernel)
set_option maxRecDepth 20000 in
theorem in_wsL_law_r38 : ∀ w ∈ wsL_law_r38, w ∈ lw_tbl := mem_r _ [964, 965, 966, 967, 968, 969, 970, 971, 972, 973, 974, 975, 976, 977, 978, 979, 980, 1785, 1786, 1787, 1788, 1789, 1446, 1790] (by decide +kernel)
set_option maxRecDepth 20000 in
theorem in_wsL_law_r39 : ∀ w ∈ wsL_law_r39, w ∈ lw_tbl := mem_r _ [1791, 1792, 1793, 1795, 81, 1796, 1797, 1799, 82, 1800, 1801, 981, 982, 983, 984, 1802, 1803, 1804, 1805, 1806, 1808, 83, 1809, 985] (by decide +kernel)
set_option maxRecDepth 20000 in
theorem in_wsL_law_r40 : ∀ w ∈ wsL_law_r40, w ∈ lw_tbl := mem_r _ [986, 987, 988, 1810, 1811, 1812, 1813, 1814, 989, 990, 991, 992, 1815, 1816, 1817, 1818, 1819, 993, 994, 995, 996, 997, 998, 1820] (by decide +kernel)
set_option maxRecDepth 20000 in
theorem in_wsL_law_r41 : ∀ w ∈ wsL_law_r41, w ∈ lw_tbl := mem_r _ [1821, 1822, 1823, 1824, 1825, 1827, 84, 1828, 999, 1000, 1001, 1002, 1003, 1004, 1005, 1006, 1007, 1008, 1009, 1010, 1011, 1012, 1013, 1014] (by decide +kernel)
set_option maxRecDepth 20000 in
theorem in_wsL_law_r42 : ∀ w ∈ wsL_law_r42, w ∈ lw_tbl := mem_r _ [1015, 1829, 1830, 1831, 1832, 1833, 1834, 1835, 1836, 1838, 85, 1839, 1448, 1840, 1842, 86, 1843, 1016, 1017, 1018, 1019, 1020, 1844, 1845] (by decide +kernel)
set_option maxRecDepth 20000 in
theorem in_wsL_law_r43 : ∀ w ∈ wsL_law_r43, w ∈ lw_tbl := mem_r _ [1846, 1847, 1848, 1850, 87, 1851, 1021, 1022, 1023, 1024, 1025, 1026, 1027, 1028, 1029, 1030, 1031, 1032, 1033, 1034, 1035, 1036, 1037, 1038] (by decide +kernel)
set_option maxRecDepth 20000 in
theorem in_wsL_law_r44 : ∀ w ∈ wsL_law_r44, w ∈ lw_tbl := mem_r _ [1040, 26, 1041, 1042, 1043, 129, 1044, 1045, 1046, 1047, 1049, 1051, 27, 1052, 1053, 1055, 28, 1056, 1852, 1853, 1854, 1855, 1856, 1858] (by decide +kernel)
set_option maxRecDepth 20000 in
theorem in_wsL_law_r45 : ∀ w ∈ wsL_law_r45, w ∈ lw_tbl := mem_r _ [88, 1859, 1057, 1058, 1059, 1060, 1061, 1062, 1063, 1064, 1065, 1860, 1861, 1862, 1863, 1864, 1866, 89, 1867, 1066, 1067, 1068, 1069, 1070] (by decide +kernel)
set_option maxRecDepth 20000 in
theorem in_wsL_law_r46 : ∀ w ∈ wsL_law_r46, w ∈ lw_tbl := mem_r _ [1071, 1072, 1073, 1086, 1074, 1075, 1076, 1077, 1078, 1079, 1080, 1081, 1082, 1083, 1084, 1085, 1875, 1876, 1877, 1878, 1879, 1881, 90, 1882] (by decide +kernel)
set_option maxRecDepth 20000 in
theorem in_wsL_law_r47 : ∀ w ∈ wsL_law_r47, w ∈ lw_tbl := mem_r _ [1883, 1885, 91, 1886, 1087, 1088, 1089, 1090, 1091, 1092, 1094, 29, 1095, 1096, 1097, 1098, 1895, 1896, 1897, 1898, 1891, 1893, 92, 1894] (by decide +kernel)
set_option maxRecDepth 20000 in
theorem in_wsL_law_r48 : ∀ w ∈ wsL_law_r48, w ∈ lw_tbl := mem_r _ [1899, 1901, 93, 1902, 1099, 1100, 1101, 1102, 1103, 1104, 1105, 1106, 1107, 1907, 1908, 1909, 1910, 1911, 1913, 94, 1914, 1108, 1109, 1110] (by decide +kernel)
set_option maxRecDepth 20000 in
theorem in_wsL_law_r49 : ∀ w ∈ wsL_law_r49, w ∈ lw_tbl := mem_r _ [1111, 1112, 1113, 1114, 1115, 1116, 1117, 1118, 1919, 1920, 1921, 1922, 1923, 1925, 95, 1926, 1927, 1119, 1120, 1121, 1122, 1928, 1929, 1930] (by decide +kernel)
set_option maxRecDepth 20000 in
theorem in_wsL_law_r50 : ∀ w ∈ wsL_law_r50, w ∈ lw_tbl := mem_r _ [1931, 1932, 1123, 1124, 1125, 1126, 1127, 1128, 1129, 1130, 1131, 1903, 1904, 1905, 1906, 1132, 1133, 1134, 1135, 1136, 1137, 1138, 1139, 1140] (by decide +kernel)
set_option maxRecDepth 20000 in
theorem in_wsL_law_r51 : ∀ w ∈ wsL_law_r51, w ∈ lw_tbl := mem_r _ [1142, 30, 1143, 1144, 1145, 1146, 1147, 1994, 1995, 1996, 1997, 1998, 1449, 1450, 1999, 2001, 97, 2002, 1148, 1149, 1150, 1151, 1156, 1152] (by decide +kernel)
set_option maxRecDepth 20000 in
theorem in_wsL_law_r52 : ∀ w ∈ wsL_law_r52, w ∈ lw_tbl := mem_r _ [1154, 31, 1155, 2003, 2004, 2005, 2006, 1956, 2007, 1157, 1158, 1159, 1160, 1161, 1162, 1163, 1164, 1165, 1166, 1167, 2008, 2009, 2010, 2011] (by decide +kernel)
set_option maxRecDepth 20000 in
theorem in_wsL_law_r53 : ∀ w ∈ wsL_law_r53, w ∈ lw_tbl := mem_r _ [1945, 1946, 1947, 1168, 1169, 1170, 1171, 1172, 1173, 1174, 1175, 1176, 1178, 32, 1179, 1180, 1182, 33, 1183, 1184, 1185, 1187, 34, 1188] (by decide +kernel)
set_option maxRecDepth 20000 in
theorem in_wsL_law_r54 : ∀ w ∈ wsL_law_r54, w ∈ lw_tbl := mem_r _ [2012, 2013, 2014, 2015, 1453, 2016, 2018, 98, 2019, 2020, 2022, 99, 2023, 1189, 1190, 1191, 1192, 2024, 2025, 2026, 2027, 1193, 1194, 1195] (by decide +kernel)
set_option maxRecDepth 20000 in
theorem in_wsL_law_r55 : ∀ w ∈ wsL_law_r55, w ∈ lw_tbl := mem_r _ [1196, 1197, 1198, 1199, 1200, 1201, 1203, 35, 1204, 1205, 1206, 1207, 1208, 2036, 2037, 2038, 2039, 1872, 1873, 1874, 2040, 2042, 100, 2043] (by decide +kernel)
set_option maxRecDepth 20000 in
theorem in_wsL_law_r56 : ∀ w ∈ wsL_law_r56, w ∈ lw_tbl := mem_r _ [1209, 1210, 1211, 1212, 1213, 1214, 1215, 1216, 2053, 2054, 2055, 2056, 2049, 2051, 101, 2052, 1217, 1218, 1219, 1220, 2044, 2045, 2046, 2047] (by decide +kernel)
set_option maxRecDepth 20000 in
theorem in_wsL_law_r57 : ∀ w ∈ wsL_law_r57, w ∈ lw_tbl := mem_r _ [2048, 1221, 1222, 1223, 1224, 1225, 2057, 2058, 2059, 2060, 2061, 1226, 1227, 1228, 1229, 1230, 1231, 1232, 1233, 2062, 2063, 2064, 2065, 1234] (by decide +kernel)
set_option maxRecDepth 20000 in
theorem in_wsL_law_r58 : ∀ w ∈ wsL_law_r58, w ∈ lw_tbl := mem_r _ [1235, 1236, 1237, 1238, 1937, 1938, 1939, 1940, 1239, 1240, 1241, 1242, 1243, 1245, 36, 1246, 1247, 1248, 1249, 1250, 2070, 2071, 2072, 2073] (by decide +kernel)
set_option maxRecDepth 20000 in
theorem in_wsL_law_r59 : ∀ w ∈ wsL_law_r59, w ∈ lw_tbl := mem_r _ [2074, 2076, 102, 2077, 1251, 1252, 1253, 1254, 1887, 1888, 1889, 1890, 1255, 1256, 1257, 1258, 1259, 1260, 1261, 1262, 1868, 1869, 1870, 1871] (by decide +kernel)
set_option maxRecDepth 20000 in
theorem in_wsL_law_r60 : ∀ w ∈ wsL_law_r60, w ∈ lw_tbl := mem_r _ [1263, 1264, 1265, 1266, 1941, 1942, 1943, 1944, 1267, 1268, 1269, 1270, 2078, 2079, 2080, 2081, 1271, 1272, 1273, 1274, 2066, 2067, 2068, 2069] (by decide +kernel)
set_option maxRecDepth 20000 in
theorem in_wsL_law_r61 : ∀ w ∈ wsL_law_r61, w ∈ lw_tbl := mem_r _ [1275, 1276, 1277, 1278, 1915, 1916, 1917, 1918, 1279, 1280, 1281, 1282, 2028, 2029, 2030, 2031, 1283, 1284, 1285, 1286, 2032, 2033, 2034, 2035] (by decide +kernel)
set_option maxRecDepth 20000 in
theorem in_wsL_law_r62 : ∀ w ∈ wsL_law_r62, w ∈ lw_tbl := mem_r _ [1287, 1288, 1289, 1290, 1933, 1934, 1935, 1936, 1291, 1292, 1293, 1294, 1948, 1949, 1950, 1951, 1295, 1296, 1297, 1298, 1961, 1962, 1963, 1964] (by decide +kernel)
set_option maxRecDepth 20000 in
theorem in_wsL_law_r63 : ∀ w ∈ wsL_law_r63, w ∈ lw_tbl := mem_r _ [1957, 1959, 96, 1960, 1299, 1300, 1301, 1302, 1952, 1953, 1954, 1955, 1303, 1304, 1305, 1306, 1965, 1966, 1967, 1968, 1307, 1308, 1309, 1310] (by decide +kernel)
set_option maxRecDepth 20000 in
theorem in_wsL_law_r64 : ∀ w ∈ wsL_law_r64, w ∈ lw_tbl := mem_r _ [1311, 1969, 1970, 1971, 1972, 1312, 1313, 1314, 1315, 1316, 1317, 1318, 1319, 1973, 1974, 1975, 1976, 1320, 1321, 1322, 1323, 1324, 1977, 1978] (by decide +kernel)
set_option maxRecDepth 20000 in
theorem in_wsL_law_r65 : ∀ w ∈ wsL_law_r65, w ∈ lw_tbl := mem_r _ [1979, 1980, 1325, 1326, 1327, 1328, 1981, 1982, 1983, 1984, 1985, 1329, 1330, 1331, 1332, 1333, 1986, 1987, 1988, 1989, 1334, 1335, 1336, 1337] (by decide +kernel)
set_option maxRecDepth 20000 in
theorem in_wsL_law_r66 : ∀ w ∈ wsL_law_r66, w ∈ lw_tbl := mem_r _ [1990, 1991, 1992, 1993, 1338, 1339, 1340, 1341, 1342, 1343, 1344, 1345, 1347, 1346, 1349, 1351, 37, 1352, 1353, 1354, 1355, 1356, 1357, 1358] (by decide +kernel)
set_option maxRecDepth 20000 in
theorem in_wsL_law_r67 : ∀ w ∈ wsL_law_r67, w ∈ lw_tbl := mem_r _ [1359, 1360, 1362, 38, 1363, 1364, 1366, 39, 1367, 1368, 1369, 1371, 40, 1372, 1373, 1374, 1375, 1376, 1378, 41, 1379, 1380, 1381, 2082] (by decide +kernel)
set_option maxRecDepth 20000 in
theorem in_wsL_law_r68 : ∀ w ∈ wsL_law_r68, w ∈ lw_tbl := mem_r _ [2083, 2084, 2085, 1458, 1454, 2086, 2088, 103, 2089, 2090, 2092, 104, 2093, 2094, 2096, 105, 2097, 2098, 2100, 106, 2101, 2102, 2104, 107] (by decide +kernel)
set_option maxRecDepth 20000 in
theorem in_wsL_law_r69 : ∀ w ∈ wsL_law_r69, w ∈ lw_tbl := mem_r _ [2105, 1382, 1383, 1384, 1385, 2106, 2107, 2108, 2109, 1386, 1387, 1388, 1389, 2110, 2111, 2112, 2113, 2114, 1390, 1391, 1392, 1393, 1394, 1396] (by decide +kernel)
set_option maxRecDepth 20000 in
theorem in_wsL_law_r70 : ∀ w ∈ wsL_law_r70, w ∈ lw_tbl := mem_r _ [42, 1397, 1398, 1399, 1400, 1401, 1402, 1403, 2115, 2116, 2117, 2118, 1459, 2119, 2121, 108, 2122, 1404, 1405, 1406, 1407, 1408, 1409, 1410] (by decide +kernel)
set_option maxRecDepth 20000 in
theorem in_wsL_law_r71 : ∀ w ∈ wsL_law_r71, w ∈ lw_tbl := mem_r _ [1411, 2123, 2124, 2125, 2126] (by decide +kernel)
set_option maxRecDepth 20000 in
theorem in_wsX100 : ∀ w ∈ wsX100, w ∈ lw_tbl := mem_r _ [537, 539, 541, 543, 545, 547, 549, 551, 553, 555, 557, 559, 561, 563, 565, 567, 569, 571, 573] (by decide +kernel)
set_option maxRecDepth 20000 in
theorem in_wsX110 : ∀ w ∈ wsX110, w ∈ lw_tbl := mem_r _ [1460, 1462, 1464, 1466, 1468, 1470, 1472, 1474, 1476, 1478, 1480, 1482, 1484, 1486, 1488, 1490, 1492, 1494, 1496, 1498, 1500, 1502, 1504, 1506, 1508, 1510, 1512, 1514, 1516, 1518, 1520, 1522, 1524, 1526, 1528, 1530, 1532, 1534] (by decide +kernel)
set_option maxRecDepth 20000 in
theorem in_wsX00 : ∀ w ∈ wsX00, w ∈ lw_tbl := mem_r _ [183, 185, 187, 189, 191, 193, 195, 197, 199, 201, 203, 205, 207, 209] (by decide +kernel)
set_option maxRecDepth 20000 in
theorem in_wsX50 : ∀ w ∈ wsX50, w ∈ lw_tbl := mem_r _ [244, 246, 248, 250, 252, 254, 256, 258] (by decide +kernel)
set_option maxRecDepth 20000 in
theorem in_wsX40 : ∀ w ∈ wsX40, w ∈ lw_tbl := mem_r _ [273, 275] (by decide +kernel)
set_option maxRecDepth 20000 in
theorem in_wsX90 : ∀ w ∈ wsX90, w ∈ lw_tbl := mem_r _ [288, 290, 292] (by decide +kernel)
set_option maxRecDepth 20000 in
theorem in_wsX80 : ∀ w ∈ wsX80, w ∈ lw_tbl := mem_r _ [381, 383, 385, 387, 389, 391, 393, 395, 397, 399, 401, 403, 405, 407] (by decide +kernel)
set_option maxRecDepth 20000 in
theorem in_wsX10 : ∀ w ∈ wsX10, w ∈ lw_tbl := mem_r _ [421, 423, 425, 427] (by decide +kernel)
set_option maxRecDepth 20000 in
theorem in_wsX60 : ∀ w ∈ wsX60, w ∈ lw_tbl := mem_r _ [442, 444, 446, 448, 450, 452] (by decide +kernel)
set_option maxRecDepth 20000 in
theorem in_wsX30 : ∀ w ∈ wsX30, w ∈ lw_tbl := mem_r _ [483, 485, 487, 489, 491, 493, 495] (by decide +kernel)
set_option maxRecDepth 20000 in
theorem in_wsX20 : ∀ w ∈ wsX20, w ∈ lw_tbl := mem_r _ [468] (by decide +kernel)
set_option maxRecDepth 20000 in
theorem in_wsX70 : ∀ w ∈ wsX70, w ∈ lw_tbl := mem_r _ [511, 513, 515] (by decide +kernel)
theorem wsL_law_in : ∀ w ∈ wsL_law, w ∈ lw_tbl := mem_app (mem_app (mem_app (mem_app (mem_app (mem_app (mem_app (mem_app (mem_app (mem_app (mem_app (mem_app (mem_app (mem_app in_wsL_law_r1 (mem_app in_wsL_law_r2 (mem_app in_wsL_law_r3 (mem_app in_wsL_law_r4 (mem_app in_wsL_law_r5 (mem_app in_wsL_law_r6 (mem_app in_wsL_law_r7 (mem_app in_wsL_law_r8 (mem_app in_wsL_law_r9 (mem_app in_wsL_law_r10 (mem_app in_wsL_law_r11 (mem_app in_wsL_law_r12 (mem_app in_wsL_law_r13 (mem_app in_wsL_law_r14 (mem_app in_wsL_law_r15 (mem_app in_wsL_law_r16 (mem_app in_wsL_law_r17 (mem_app in_wsL_law_r18 (mem_app in_wsL_law_r19 (mem_app in_wsL_law_r20 (mem_app in_wsL_law_r21 (mem_app in_wsL_law_r22 (mem_app in_wsL_law_r23 (mem_app in_wsL_law_r24 (mem_app in_wsL_law_r25 (mem_app in_wsL_law_r26 (mem_app in_wsL_law_r27 (mem_app in_wsL_law_r28 (mem_app in_wsL_law_r29 (mem_app in_wsL_law_r30 (mem_app in_wsL_law_r31 (mem_app in_wsL_law_r32 (mem_app in_wsL_law_r33 (mem_app in_wsL_law_r34 (mem_app in_wsL_law_r35 (mem_app in_wsL_law_r36 (mem_app in_wsL_law_r37 (mem_app in_wsL_law_r38 (mem_app in_wsL_law_r39 (mem_app in_wsL_law_r40 (mem_app in_wsL_law_r41 (mem_app in_wsL_law_r42 (mem_app in_wsL_law_r43 (mem_app in_wsL_law_r44 (mem_app in_wsL_law_r45 (mem_app in_wsL_law_r46 (mem_app in_wsL_law_r47 (mem_app in_wsL_law_r48 (mem_app in_wsL_law_r49 (mem_app in_wsL_law_r50 (mem_app in_wsL_law_r51 (mem_app in_wsL_law_r52 (mem_app in_wsL_law_r53 (mem_app in_wsL_law_r54 (mem_app in_wsL_law_r55 (mem_app in_wsL_law_r56 (mem_app in_wsL_law_r57 (mem_app in_wsL_law_r58 (mem_app in_wsL_law_r59 (mem_app in_wsL_law_r60 (mem_app in_wsL_law_r61 (mem_app in_wsL_law_r62 (mem_app in_wsL_law_r63 (mem_app in_wsL_law_r64 (mem_app in_wsL_law_r65 (mem_app in_wsL_law_r66 (mem_app in_wsL_law_r67 (mem_app in_wsL_law_r68 (mem_app in_wsL_law_r69 (mem_app in_wsL_law_r70 (in_wsL_law_r71))))))))))))))))))))))))))))))))))))))))))))))))))))))))))))))))))))))) in_wsX100) in_wsX110) in_wsX00) in_wsX50) in_wsX40) in_wsX90) in_wsX80) in_wsX10) in_wsX60) in_wsX30) in_wsX20) in_wsX70) (fun _ h => absurd h List.not_mem_nil)
theorem inlX0 : ∀ w ∈ wsX00, w ∈ wsL_law := fun _ h => List.mem_append_left _ (List.mem_append_left _ (List.mem_append_left _ (List.mem_append_left _ (List.mem_append_left _ (List.mem_append_left _ (List.mem_append_left _ (List.mem_append_left _ (List.mem_append_left _ (List.mem_append_left _ (List.mem_append_right _ h))))))))))
theorem inX0 : ∀ w ∈ wsX00, w ∈ lw_tbl := fun w h => wsL_law_in w (inlX0 w h)
theorem inlX1 : ∀ w ∈ wsX10, w ∈ wsL_law := fun _ h => List.mem_append_left _ (List.mem_append_left _ (List.mem_append_left _ (List.mem_append_left _ (List.mem_append_left _ (List.mem_append_right _ h)))))
theorem inX1 : ∀ w ∈ wsX10, w ∈ lw_tbl := fun w h => wsL_law_in w (inlX1 w h)
theorem inlX2 : ∀ w ∈ wsX20, w ∈ wsL_law := fun _ h => List.mem_append_left _ (List.mem_append_left _ (List.mem_append_right _ h))
theorem inX2 : ∀ w ∈ wsX20, w ∈ lw_tbl := fun w h => wsL_law_in w (inlX2 w h)
theorem inlX3 : ∀ w ∈ wsX30, w ∈ wsL_law := fun _ h => List.mem_append_left _ (List.mem_append_left _ (List.mem_append_left _ (List.mem_append_right _ h)))
theorem inX3 : ∀ w ∈ wsX30, w ∈ lw_tbl := fun w h => wsL_law_in w (inlX3 w h)
theorem inlX4 : ∀ w ∈ wsX40, w ∈ wsL_law := fun _ h => List.mem_append_left _ (List.mem_append_left _ (List.mem_append_left _ (List.mem_append_left _ (List.mem_append_left _ (List.mem_append_left _ (List.mem_append_left _ (List.mem_append_left _ (List.mem_append_right _ h))))))))
theorem inX4 : ∀ w ∈ wsX40, w ∈ lw_tbl := fun w h => wsL_law_in w (inlX4 w h)
theorem inlX5 : ∀ w ∈ wsX50, w ∈ wsL_law := fun _ h => List.mem_append_left _ (List.mem_append_left _ (List.mem_append_left _ (List.mem_append_left _ (List.mem_append_left _ (List.mem_append_left _ (List.mem_append_left _ (List.mem_append_left _ (List.mem_append_left _ (List.mem_append_right _ h)))))))))
theorem inX5 : ∀ w ∈ wsX50, w ∈ lw_tbl := fun w h => wsL_law_in w (inlX5 w h)
theorem inlX6 : ∀ w ∈ wsX60, w ∈ wsL_law := fun _ h => List.mem_append_left _ (List.mem_append_left _ (List.mem_append_left _ (List.mem_append_left _ (List.mem_append_right _ h))))
theorem inX6 : ∀ w ∈ wsX60, w ∈ lw_tbl := fun w h => wsL_law_in w (inlX6 w h)
theorem inlX7 : ∀ w ∈ wsX70, w ∈ wsL_law := fun _ h => List.mem_append_left _ (List.mem_append_right _ h)
theorem inX7 : ∀ w ∈ wsX70, w ∈ lw_tbl := fun w h => wsL_law_in w (inlX7 w h)
theorem inlX8 : ∀ w ∈ wsX80, w ∈ wsL_law := fun _ h => List.mem_append_left _ (List.mem_append_left _ (List.mem_append_left _ (List.mem_append_left _ (List.mem_append_left _ (List.mem_append_left _ (List.mem_append_right _ h))))))
theorem inX8 : ∀ w ∈ wsX80, w ∈ lw_tbl := fun w h => wsL_law_in w (inlX8 w h)
theorem inlX9 : ∀ w ∈ wsX90, w ∈ wsL_law := fun _ h => List.mem_append_left _ (List.mem_append_left _ (List.mem_append_left _ (List.mem_append_left _ (List.mem_append_left _ (List.mem_append_left _ (List.mem_append_left _ (List.mem_append_right _ h)))))))
theorem inX9 : ∀ w ∈ wsX90, w ∈ lw_tbl := fun w h => wsL_law_in w (inlX9 w h)
theorem inlX10 : ∀ w ∈ wsX100, w ∈ wsL_law := fun _ h => List.mem_append_left _ (List.mem_append_left _ (List.mem_append_left _ (List.mem_append_left _ (List.mem_append_left _ (List.mem_append_left _ (List.mem_append_left _ (List.mem_append_left _ (List.mem_append_left _ (List.mem_append_left _ (List.mem_append_left _ (List.mem_append_left _ (List.mem_append_right _ h))))))))))))
theorem inX10 : ∀ w ∈ wsX100, w ∈ lw_tbl := fun w h => wsL_law_in w (inlX10 w h)
theorem inlX11 : ∀ w ∈ wsX110, w ∈ wsL_law := fun _ h => List.mem_append_left _ (List.mem_append_left _ (List.mem_append_left _ (List.mem_append_left _ (List.mem_append_left _ (List.mem_append_left _ (List.mem_append_left _ (List.mem_append_left _ (List.mem_append_left _ (List.mem_append_left _ (List.mem_append_left _ (List.mem_append_right _ h)))))))))))
theorem inX11 : ∀ w ∈ wsX110, w ∈ lw_tbl := fun w h => wsL_law_in w (inlX11 w h)
theorem inJ6 : ∀ w ∈ wsJ60, w ∈ lw_tbl := by decide +kernel
theorem inJ13 : ∀ w ∈ wsJ130, w ∈ lw_tbl := by decide +kernel
theorem inJ9 : ∀ w ∈ wsJ90, w ∈ lw_tbl := by decide +kernel
theorem inJ0 : ∀ w ∈ wsJ00, w ∈ lw_tbl := by decide +kernel
theorem inJ1 : ∀ w ∈ wsJ10, w ∈ lw_tbl := by decide +kernel
theorem inJ2 : ∀ w ∈ wsJ20, w ∈ lw_tbl := by decide +kernel
theorem inJ10 : ∀ w ∈ wsJ100, w ∈ lw_tbl := by decide +kernel
theorem inJ3 : ∀ w ∈ wsJ30, w ∈ lw_tbl := by decide +kernel

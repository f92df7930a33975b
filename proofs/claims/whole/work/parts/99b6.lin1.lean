set_option maxRecDepth 20000 in
theorem lin_r34 : ∀ w ∈ wsL_law0_r34, w ∈ lw_tbl := mem_p [1724, 1725, 1726, 1727, 1728, 1730, 75, 1731, 1732, 1734, 76, 1735, 1736, 1738, 77, 1739, 1522, 1740, 1742, 78, 1743, 1744, 1746, 79] (by decide +kernel)
set_option maxRecDepth 20000 in
theorem lin_r35 : ∀ w ∈ wsL_law0_r35, w ∈ lw_tbl := mem_p [1764, 1766, 84, 1767, 1755, 1756, 1758, 82, 1768, 1770, 85, 1771, 1760, 1762, 83, 1763, 1751, 1752, 1754, 81, 1759, 1772, 1774, 86] (by decide +kernel)
set_option maxRecDepth 20000 in
theorem lin_r36 : ∀ w ∈ wsL_law0_r36, w ∈ lw_tbl := mem_p [1775, 1747, 1748, 1750, 80, 956, 957, 958, 959, 960, 961, 962, 963, 964, 965, 966, 968, 26, 969, 970, 971, 972, 973, 974] (by decide +kernel)
set_option maxRecDepth 20000 in
theorem lin_r37 : ∀ w ∈ wsL_law0_r37, w ∈ lw_tbl := mem_p [975, 976, 977, 978, 980, 27, 981, 982, 983, 984, 985, 986, 1776, 1777, 1778, 1779, 1780, 1782, 87, 1783, 987, 988, 989, 990] (by decide +kernel)
set_option maxRecDepth 20000 in
theorem lin_r38 : ∀ w ∈ wsL_law0_r38, w ∈ lw_tbl := mem_p [244, 253, 249, 251, 991, 992, 993, 994, 995, 407, 1011, 1012, 996, 997, 998, 999, 1000, 1001, 1002, 1003, 1004, 1005, 1006, 1007] (by decide +kernel)
set_option maxRecDepth 20000 in
theorem lin_r39 : ∀ w ∈ wsL_law0_r39, w ∈ lw_tbl := mem_p [1008, 1009, 1010, 1784, 1785, 1786, 1787, 1788, 1790, 88, 1791, 1792, 1794, 89, 1795, 1796, 1797, 1798, 1799, 1801, 90, 1802, 1803, 1804] (by decide +kernel)
set_option maxRecDepth 20000 in
theorem lin_r40 : ∀ w ∈ wsL_law0_r40, w ∈ lw_tbl := mem_p [1805, 1013, 1014, 1015, 1016, 1017, 1018, 1019, 1020, 1806, 1807, 1808, 1809, 1810, 1812, 91, 1813, 1021, 1022, 1023, 1024, 379, 383, 256] (by decide +kernel)
set_option maxRecDepth 20000 in
theorem lin_r41 : ∀ w ∈ wsL_law0_r41, w ∈ lw_tbl := mem_p [386, 1025, 1026, 1027, 1028, 1029, 1030, 1031, 1032, 1814, 1815, 1816, 1817, 1818, 1820, 92, 1821, 1822, 1824, 93, 1825, 1041, 1042, 1043] (by decide +kernel)
set_option maxRecDepth 20000 in
theorem lin_r42 : ∀ w ∈ wsL_law0_r42, w ∈ lw_tbl := mem_p [1044, 1045, 1047, 28, 1048, 1049, 1051, 29, 1052, 1053, 1054, 1055, 1056, 1057, 380, 1058, 1060, 30, 1061, 1062, 1063, 1065, 31, 1066] (by decide +kernel)
set_option maxRecDepth 20000 in
theorem lin_r43 : ∀ w ∈ wsL_law0_r43, w ∈ lw_tbl := mem_p [387, 1067, 1069, 32, 1070, 1071, 1073, 33, 1074, 1826, 1827, 1828, 1829, 1830, 1832, 94, 1833, 1834, 1836, 95, 1837, 1838, 1840, 96] (by decide +kernel)
set_option maxRecDepth 20000 in
theorem lin_r44 : ∀ w ∈ wsL_law0_r44, w ∈ lw_tbl := mem_p [1841, 1842, 1844, 97, 1845, 1846, 1848, 98, 1849, 1850, 1852, 99, 1853, 1075, 1076, 1077, 1078, 1079, 1080, 1081, 1082, 384, 1083, 1084] (by decide +kernel)
set_option maxRecDepth 20000 in
theorem lin_r45 : ∀ w ∈ wsL_law0_r45, w ∈ lw_tbl := mem_p [1085, 1086, 1087, 1088, 1089, 1090, 410, 1091, 1854, 1855, 1856, 1857, 1858, 1860, 100, 1861, 1862, 1864, 101, 1865, 1866, 1868, 102, 1869] (by decide +kernel)
set_option maxRecDepth 20000 in
theorem lin_r46 : ∀ w ∈ wsL_law0_r46, w ∈ lw_tbl := mem_p [1870, 1872, 103, 1873, 1874, 1876, 104, 1877, 1092, 1093, 1094, 1095, 1096, 1097, 1098, 1099, 1100, 1878, 1879, 1880, 1881, 1882, 1884, 105] (by decide +kernel)
set_option maxRecDepth 20000 in
theorem lin_r47 : ∀ w ∈ wsL_law0_r47, w ∈ lw_tbl := mem_p [1885, 1101, 1102, 1103, 1104, 1105, 1106, 1107, 1108, 1886, 1887, 1888, 1889, 1109, 1110, 1111, 1112, 258, 1113, 1114, 1115, 1116, 1890, 1891] (by decide +kernel)
set_option maxRecDepth 20000 in
theorem lin_r48 : ∀ w ∈ wsL_law0_r48, w ∈ lw_tbl := mem_p [1892, 1893, 1894, 1896, 106, 1897, 1117, 1118, 1119, 1120, 1898, 1899, 1900, 1901, 1125, 1126, 1127, 1128, 266, 1129, 1130, 1131, 1132, 1133] (by decide +kernel)
set_option maxRecDepth 20000 in
theorem lin_r49 : ∀ w ∈ wsL_law0_r49, w ∈ lw_tbl := mem_p [1135, 34, 1136, 1137, 1138, 1139, 1140, 1141, 1037, 1038, 1039, 1040, 1902, 1903, 1904, 1905, 1906, 1908, 107, 1909, 1910, 1912, 108, 1913] (by decide +kernel)
set_option maxRecDepth 20000 in
theorem lin_r50 : ∀ w ∈ wsL_law0_r50, w ∈ lw_tbl := mem_p [1914, 1916, 109, 1917, 1176, 1177, 1178, 1179, 314, 316, 1180, 1181, 1183, 37, 1184, 262, 1185, 1186, 1187, 1188, 261, 1189, 1191, 38] (by decide +kernel)
set_option maxRecDepth 20000 in
theorem lin_r51 : ∀ w ∈ wsL_law0_r51, w ∈ lw_tbl := mem_p [1192, 1193, 1195, 39, 1196, 1197, 1198, 1200, 40, 1201, 1202, 1203, 1204, 1205, 1206, 1918, 1919, 1920, 1921, 1532, 1533, 1922, 1924, 110] (by decide +kernel)
set_option maxRecDepth 20000 in
theorem lin_r52 : ∀ w ∈ wsL_law0_r52, w ∈ lw_tbl := mem_p [1925, 1926, 1928, 111, 1929, 1930, 1932, 112, 1933, 1934, 1936, 113, 1937, 1207, 1208, 1209, 1210, 1938, 1939, 1940, 1941, 1211, 1212, 1213] (by decide +kernel)
set_option maxRecDepth 20000 in
theorem lin_r53 : ∀ w ∈ wsL_law0_r53, w ∈ lw_tbl := mem_p [1214, 1942, 1943, 1944, 1945, 1215, 1216, 1217, 1218, 268, 401, 1946, 1947, 1948, 1949, 1219, 1220, 1221, 1222, 1223, 1224, 1225, 1226, 1950] (by decide +kernel)
set_option maxRecDepth 20000 in
theorem lin_r54 : ∀ w ∈ wsL_law0_r54, w ∈ lw_tbl := mem_p [1951, 1952, 1953, 1227, 1228, 1229, 1230, 270, 272, 274, 1231, 1954, 1955, 1956, 1957, 1232, 1233, 1234, 1235, 1236, 1237, 1238, 1239, 1958] (by decide +kernel)
set_option maxRecDepth 20000 in
theorem lin_r55 : ∀ w ∈ wsL_law0_r55, w ∈ lw_tbl := mem_p [1959, 1960, 1961, 1962, 1964, 114, 1965, 1240, 1241, 1242, 1243, 396, 1244, 1245, 1247, 41, 1248, 1249, 1966, 1967, 1968, 1969, 1250, 1251] (by decide +kernel)
set_option maxRecDepth 20000 in
theorem lin_r56 : ∀ w ∈ wsL_law0_r56, w ∈ lw_tbl := mem_p [1252, 1253, 1970, 1971, 1972, 1973, 1254, 1255, 1256, 1257, 1258, 1259, 1260, 1261, 260, 246, 248, 1262, 1165, 1166, 1167, 1263, 1264, 1265] (by decide +kernel)
set_option maxRecDepth 20000 in
theorem lin_r57 : ∀ w ∈ wsL_law0_r57, w ∈ lw_tbl := mem_p [1266, 399, 382, 1267, 1269, 42, 1270, 1271, 1272, 1273, 1274, 1276, 1278, 43, 1279, 1280, 1281, 1282, 1283, 1974, 1975, 1976, 1977, 1538] (by decide +kernel)
set_option maxRecDepth 20000 in
theorem lin_r58 : ∀ w ∈ wsL_law0_r58, w ∈ lw_tbl := mem_p [1978, 1980, 115, 1981, 1982, 1984, 116, 1985, 1284, 1285, 1286, 1287, 1288, 1289, 1290, 1291, 1292, 1293, 1294, 1295, 1296, 1298, 44, 1299] (by decide +kernel)
set_option maxRecDepth 20000 in
theorem lin_r59 : ∀ w ∈ wsL_law0_r59, w ∈ lw_tbl := mem_p [1300, 1301, 1986, 1987, 1988, 1989, 1302, 1303, 1304, 1305, 403, 1306, 1308, 45, 1309, 389, 1310, 1311, 1312, 1313, 1990, 1991, 1992, 1993] (by decide +kernel)
set_option maxRecDepth 20000 in
theorem lin_r60 : ∀ w ∈ wsL_law0_r60, w ∈ lw_tbl := mem_p [1994, 1996, 117, 1997, 1998, 2000, 118, 2001, 1314, 1315, 1316, 1317, 1318, 1320, 46, 1321, 2002, 2003, 2004, 2005, 2006, 2008, 119, 2009] (by decide +kernel)
set_option maxRecDepth 20000 in
theorem lin_r61 : ∀ w ∈ wsL_law0_r61, w ∈ lw_tbl := mem_p [1322, 1323, 1324, 1325, 2010, 2011, 2012, 2013, 1352, 1353, 123, 1354, 1355, 1356, 1357, 1358, 1359, 1360, 151, 1425, 1426, 1427, 1428, 1429] (by decide +kernel)
set_option maxRecDepth 20000 in
theorem lin_r62 : ∀ w ∈ wsL_law0_r62, w ∈ lw_tbl := mem_p [1430, 1431, 1432, 1433, 2014, 2015, 2016, 2017, 2018, 2019, 2020, 2021, 2022, 2023, 1435, 1436, 1437, 1438, 1326, 1327, 1328, 1329, 1330, 1332] (by decide +kernel)
set_option maxRecDepth 20000 in
theorem lin_r63 : ∀ w ∈ wsL_law0_r63, w ∈ lw_tbl := mem_p [47, 1333, 1334, 1335, 1336, 1337, 1338, 1339, 1340, 1341, 2024, 2025, 2026, 2027, 1539, 2028, 2030, 120, 2031, 1342, 1343, 1344, 1345, 1346] (by decide +kernel)
set_option maxRecDepth 20000 in
theorem lin_r64 : ∀ w ∈ wsL_law0_r64, w ∈ lw_tbl := mem_p [1347, 1349, 48, 1350, 1351, 2032, 2033, 2034, 2035, 2036, 1142, 1143, 1144, 1145, 358, 355, 1146, 1147, 1148, 1149, 398, 1150, 1151, 1153] (by decide +kernel)
set_option maxRecDepth 20000 in
theorem lin_r65 : ∀ w ∈ wsL_law0_r65, w ∈ lw_tbl := mem_p [35, 1154, 1155, 1156, 1157, 1158, 1159, 1161, 36, 1162, 395, 378, 265, 1163, 1164, 1168, 1169, 1170, 1171, 1172, 1173, 1174, 1175, 2037] (by decide +kernel)
set_option maxRecDepth 20000 in
theorem lin_r66 : ∀ w ∈ wsL_law0_r66, w ∈ lw_tbl := mem_p [2038, 2039, 2040, 1542, 2041, 2043, 121, 2044, 2045, 2047, 122, 2048, 2049, 2050, 2051, 2052, 1121, 1122, 1123, 1124, 2053, 2054, 2055, 2056] (by decide +kernel)
set_option maxRecDepth 20000 in
theorem lin_r67 : ∀ w ∈ wsL_law0_r67, w ∈ lw_tbl := mem_p [1033, 1034, 1035, 1036, 2057, 2058, 2059, 2060] (by decide +kernel)

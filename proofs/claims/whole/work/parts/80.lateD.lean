/-! THE LAW'S WORDS lie in the tables (by their places) -/
theorem zidx_in {A B : List Cond} (is : List Nat) (h : A.map some = is.map (fun i => B[i]?)) : ∀ w ∈ A, w ∈ B := by
  intro w hw
  have h1 : some w ∈ A.map some := List.mem_map.mpr ⟨w, hw, rfl⟩
  rw [h] at h1
  obtain ⟨i, -, hi⟩ := List.mem_map.mp h1
  exact List.mem_of_getElem? hi
set_option maxRecDepth 100000 in
theorem zt_wsL_law0_r1 : ∀ w ∈ wsL_law0_r1, w ∈ lw_tbl := zidx_in [99, 100, 74, 1146, 1147, 83, 1489, 101, 102, 103, 104, 105, 106, 107, 108, 75, 354, 168, 169, 76, 355, 198, 199, 77] (by rfl)
set_option maxRecDepth 100000 in
theorem zt_wsL_law0_r2 : ∀ w ∈ wsL_law0_r2, w ∈ lw_tbl := zidx_in [356, 252, 253, 79, 357, 297, 298, 80, 358, 321, 322, 81, 359, 360, 361, 110, 111, 112, 167, 127, 130, 133, 136, 139] (by rfl)
set_option maxRecDepth 100000 in
theorem zt_wsL_law0_r3 : ∀ w ∈ wsL_law0_r3, w ∈ lw_tbl := zidx_in [142, 170, 171, 172, 173, 178, 181, 183, 174, 185, 176, 200, 201, 202, 203, 204, 205, 78, 230, 231, 232, 219, 207, 208] (by rfl)
set_option maxRecDepth 100000 in
theorem zt_wsL_law0_r4 : ∀ w ∈ wsL_law0_r4, w ∈ lw_tbl := zidx_in [209, 210, 212, 254, 255, 256, 257, 270, 273, 275, 276, 258, 299, 300, 301, 302, 306, 308, 303, 304, 305, 323, 324, 325] (by rfl)
set_option maxRecDepth 100000 in
theorem zt_wsL_law0_r5 : ∀ w ∈ wsL_law0_r5, w ∈ lw_tbl := zidx_in [326, 328, 330, 333, 327, 347, 348, 349, 350, 113, 115, 118, 123, 351, 352, 82, 353, 1148, 1149, 1150, 1151, 1154, 1155, 1156] (by rfl)
set_option maxRecDepth 100000 in
theorem zt_wsL_law0_r6 : ∀ w ∈ wsL_law0_r6, w ∈ lw_tbl := zidx_in [1158, 1159, 1160, 1161, 1162, 1163, 1170, 1171, 1172, 1177, 1178, 1179, 1182, 1183, 1184, 1185, 1265, 1186, 1152, 1187, 1188, 379, 380, 381] (by rfl)
set_option maxRecDepth 100000 in
theorem zt_wsL_law0_r7 : ∀ w ∈ wsL_law0_r7, w ∈ lw_tbl := zidx_in [382, 383, 384, 385, 386, 388, 0, 389, 1270, 1271, 1272, 1273, 1153, 1157, 1274, 1275, 1276, 1277, 1279, 38, 1280, 1164, 1180, 1181] (by rfl)
set_option maxRecDepth 100000 in
theorem zt_wsL_law0_r8 : ∀ w ∈ wsL_law0_r8, w ∈ lw_tbl := zidx_in [390, 391, 392, 393, 124, 394, 395, 396, 397, 398, 399, 400, 401, 403, 404, 405, 406, 407, 408, 1281, 1282, 1283, 1284, 409] (by rfl)
set_option maxRecDepth 100000 in
theorem zt_wsL_law0_r9 : ∀ w ∈ wsL_law0_r9, w ∈ lw_tbl := zidx_in [410, 411, 412, 116, 143, 413, 414, 415, 416, 417, 1285, 1286, 1287, 1288, 418, 419, 420, 421, 269, 422, 423, 424, 425, 213] (by rfl)
set_option maxRecDepth 100000 in
theorem zt_wsL_law0_r10 : ∀ w ∈ wsL_law0_r10, w ∈ lw_tbl := zidx_in [121, 426, 428, 1, 429, 117, 227, 228, 114, 229, 126, 222, 430, 431, 432, 433, 434, 435, 436, 437, 438, 439, 440, 441] (by rfl)
set_option maxRecDepth 100000 in
theorem zt_wsL_law0_r11 : ∀ w ∈ wsL_law0_r11, w ∈ lw_tbl := zidx_in [442, 443, 444, 445, 446, 448, 449, 450, 84, 451, 452, 454, 453, 85, 455, 457, 2, 458, 459, 460, 461, 462, 463, 465] (by rfl)
set_option maxRecDepth 100000 in
theorem zt_wsL_law0_r12 : ∀ w ∈ wsL_law0_r12, w ∈ lw_tbl := zidx_in [3, 466, 467, 469, 4, 470, 472, 473, 475, 476, 477, 479, 5, 480, 481, 482, 483, 484, 485, 486, 487, 488, 489, 491] (by rfl)
set_option maxRecDepth 100000 in
theorem zt_wsL_law0_r13 : ∀ w ∈ wsL_law0_r13, w ∈ lw_tbl := zidx_in [6, 492, 145, 493, 495, 7, 496, 497, 498, 500, 8, 501, 502, 503, 504, 505, 506, 508, 9, 509, 129, 135, 141, 132] (by rfl)
set_option maxRecDepth 100000 in
theorem zt_wsL_law0_r14 : ∀ w ∈ wsL_law0_r14, w ∈ lw_tbl := zidx_in [138, 510, 512, 10, 513, 515, 517, 11, 518, 519, 521, 12, 522, 523, 525, 13, 526, 226, 547, 527, 528, 529, 530, 531] (by rfl)
set_option maxRecDepth 100000 in
theorem zt_wsL_law0_r15 : ∀ w ∈ wsL_law0_r15, w ∈ lw_tbl := zidx_in [532, 533, 534, 211, 535, 537, 14, 538, 539, 540, 541, 542, 543, 545, 15, 546, 548, 549, 550, 551, 224, 261, 263, 265] (by rfl)
set_option maxRecDepth 100000 in
theorem zt_wsL_law0_r16 : ∀ w ∈ wsL_law0_r16, w ∈ lw_tbl := zidx_in [268, 552, 553, 554, 555, 557, 558, 559, 560, 561, 564, 566, 16, 567, 568, 570, 17, 571, 572, 573, 574, 575, 576, 578] (by rfl)
set_option maxRecDepth 100000 in
theorem zt_wsL_law0_r17 : ∀ w ∈ wsL_law0_r17, w ∈ lw_tbl := zidx_in [18, 579, 580, 581, 582, 583, 584, 585, 626, 627, 91, 1289, 1290, 1291, 1292, 1165, 1166, 1169, 1167, 1168, 1173, 1174, 1175, 1176] (by rfl)
set_option maxRecDepth 100000 in
theorem zt_wsL_law0_r18 : ∀ w ∈ wsL_law0_r18, w ∈ lw_tbl := zidx_in [1293, 1295, 39, 1296, 1297, 1299, 40, 1300, 1301, 1303, 41, 1304, 1305, 1307, 42, 1308, 1309, 1311, 43, 1312, 1313, 1315, 44, 1316] (by rfl)
set_option maxRecDepth 100000 in
theorem zt_wsL_law0_r19 : ∀ w ∈ wsL_law0_r19, w ∈ lw_tbl := zidx_in [1317, 1319, 45, 1320, 1321, 1323, 46, 1324, 1325, 1327, 47, 1328, 1329, 1331, 48, 1332, 1333, 1335, 49, 1336, 1337, 1339, 50, 1340] (by rfl)
set_option maxRecDepth 100000 in
theorem zt_wsL_law0_r20 : ∀ w ∈ wsL_law0_r20, w ∈ lw_tbl := zidx_in [1341, 1343, 51, 1344, 1345, 1347, 52, 1348, 1349, 1351, 53, 1352, 1353, 1355, 54, 1356, 1357, 1359, 55, 1360, 1361, 1363, 56, 1364] (by rfl)
set_option maxRecDepth 100000 in
theorem zt_wsL_law0_r21 : ∀ w ∈ wsL_law0_r21, w ∈ lw_tbl := zidx_in [1365, 1367, 57, 1368, 882, 883, 884, 885, 221, 225, 262, 264, 266, 886, 887, 1369, 1370, 1371, 1372, 888, 889, 890, 891, 892] (by rfl)
set_option maxRecDepth 100000 in
theorem zt_wsL_law0_r22 : ∀ w ∈ wsL_law0_r22, w ∈ lw_tbl := zidx_in [893, 1373, 1374, 1375, 1376, 894, 895, 896, 897, 898, 1377, 1378, 1379, 1380, 899, 900, 901, 902, 272, 1381, 1382, 1383, 1384, 903] (by rfl)
set_option maxRecDepth 100000 in
theorem zt_wsL_law0_r23 : ∀ w ∈ wsL_law0_r23, w ∈ lw_tbl := zidx_in [904, 905, 906, 907, 908, 909, 910, 911, 913, 20, 914, 915, 916, 917, 918, 919, 921, 21, 922, 1385, 1386, 1387, 1388, 1389] (by rfl)
set_option maxRecDepth 100000 in
theorem zt_wsL_law0_r24 : ∀ w ∈ wsL_law0_r24, w ∈ lw_tbl := zidx_in [1391, 58, 1392, 1393, 1395, 59, 1396, 1397, 1399, 60, 1400, 1401, 1403, 61, 1404, 950, 951, 73, 952, 953, 954, 955, 956, 957] (by rfl)
set_option maxRecDepth 100000 in
theorem zt_wsL_law0_r25 : ∀ w ∈ wsL_law0_r25, w ∈ lw_tbl := zidx_in [958, 98, 309, 974, 975, 976, 977, 978, 980, 23, 981, 144, 983, 982, 984, 986, 24, 987, 119, 125, 988, 990, 25, 991] (by rfl)
set_option maxRecDepth 100000 in
theorem zt_wsL_law0_r26 : ∀ w ∈ wsL_law0_r26, w ∈ lw_tbl := zidx_in [992, 993, 995, 26, 996, 128, 131, 140, 998, 1000, 27, 1001, 137, 134, 1002, 1003, 1004, 1005, 223, 259, 1007, 1008, 1010, 28] (by rfl)
set_option maxRecDepth 100000 in
theorem zt_wsL_law0_r27 : ∀ w ∈ wsL_law0_r27, w ∈ lw_tbl := zidx_in [1011, 177, 186, 182, 184, 120, 179, 1012, 1013, 1014, 1015, 1016, 1017, 1018, 1020, 29, 1021, 220, 1022, 1023, 1024, 1026, 30, 1027] (by rfl)
set_option maxRecDepth 100000 in
theorem zt_wsL_law0_r28 : ∀ w ∈ wsL_law0_r28, w ∈ lw_tbl := zidx_in [1028, 1029, 1031, 31, 1032, 1033, 1035, 32, 1036, 1037, 1038, 1039, 1040, 1041, 1042, 267, 331, 332, 260, 1044, 1045, 1047, 33, 1048] (by rfl)
set_option maxRecDepth 100000 in
theorem zt_wsL_law0_r29 : ∀ w ∈ wsL_law0_r29, w ∈ lw_tbl := zidx_in [1049, 1051, 34, 1052, 277, 274, 271, 1405, 1406, 1407, 1408, 1409, 1411, 62, 1412, 1413, 1415, 63, 1416, 1417, 1419, 64, 1420, 1421] (by rfl)
set_option maxRecDepth 100000 in
theorem zt_wsL_law0_r30 : ∀ w ∈ wsL_law0_r30, w ∈ lw_tbl := zidx_in [1423, 65, 1424, 1425, 1427, 66, 1428, 1429, 1431, 67, 1432, 1189, 1433, 1435, 68, 1436, 1437, 1439, 69, 1440, 1266, 1267, 1268, 1269] (by rfl)
set_option maxRecDepth 100000 in
theorem zt_wsL_law0_r31 : ∀ w ∈ wsL_law0_r31, w ∈ lw_tbl := zidx_in [923, 924, 925, 926, 122, 180, 1441, 1442, 1443, 1444, 927, 928, 929, 930, 307, 1445, 1446, 1447, 1448, 931, 932, 933, 934, 1449] (by rfl)
set_option maxRecDepth 100000 in
theorem zt_wsL_law0_r32 : ∀ w ∈ wsL_law0_r32, w ∈ lw_tbl := zidx_in [1450, 1451, 1452, 935, 936, 937, 938, 939, 940, 941, 942, 943, 945, 22, 946, 947, 948, 84, 949, 1453, 1454, 1455, 1456, 1053] (by rfl)
set_option maxRecDepth 100000 in
theorem zt_wsL_law0_r33 : ∀ w ∈ wsL_law0_r33, w ∈ lw_tbl := zidx_in [1054, 1055, 1056, 1057, 1058, 1059, 1060, 1066, 89, 1061, 1063, 35, 1064, 1069, 1070, 1071, 1072, 1457, 1458, 1459, 1460, 1461, 1463, 70] (by rfl)
set_option maxRecDepth 100000 in
theorem zt_wsL_law0_r34 : ∀ w ∈ wsL_law0_r34, w ∈ lw_tbl := zidx_in [1464, 1073, 1074, 1075, 1076, 1077, 1078, 1079, 1081, 1082, 1083, 1084, 1085, 1086, 1087, 1088, 1465, 1466, 1467, 1468, 1469, 1471, 71, 1472] (by rfl)
set_option maxRecDepth 100000 in
theorem zt_wsL_law0_r35 : ∀ w ∈ wsL_law0_r35, w ∈ lw_tbl := zidx_in [1089, 1090, 1091, 1092, 1093, 1094, 1095, 1096, 1097, 1098, 1099, 1100, 1101, 1102, 1103, 1104, 1105, 1473, 1474, 1475, 1476, 1477, 1479, 72] (by rfl)
set_option maxRecDepth 100000 in
theorem zt_wsL_law0_r36 : ∀ w ∈ wsL_law0_r36, w ∈ lw_tbl := zidx_in [1480, 1106, 1107, 1108, 1109, 1110, 1111, 1112, 1113, 1114, 1115, 1116, 1117, 1118, 1119, 1120, 1121, 1122, 1123, 1124, 1126, 36, 1127, 1128] (by rfl)
set_option maxRecDepth 100000 in
theorem zt_wsL_law0_r37 : ∀ w ∈ wsL_law0_r37, w ∈ lw_tbl := zidx_in [1130, 37, 1131, 329, 1132, 1133, 1134, 1135, 1136, 1137, 1481, 1482, 1483, 1484, 1138, 1139, 1140, 1141, 1142, 1143, 1144, 1485, 1486, 1487] (by rfl)
set_option maxRecDepth 100000 in
theorem zt_wsL_law0_r38 : ∀ w ∈ wsL_law0_r38, w ∈ lw_tbl := zidx_in [1488] (by rfl)
set_option maxRecDepth 100000 in
theorem zt_wsX70 : ∀ w ∈ wsX70, w ∈ lw_tbl := zidx_in [362, 364, 366, 368, 370, 372, 374, 376] (by rfl)
set_option maxRecDepth 100000 in
theorem zt_wsX80 : ∀ w ∈ wsX80, w ∈ lw_tbl := zidx_in [1190, 1192, 1194, 1196, 1198, 1200, 1202, 1204, 1206, 1208, 1210, 1212, 1214, 1216, 1218, 1220, 1222, 1224, 1226, 1228, 1230, 1232, 1234, 1236, 1238, 1240, 1242, 1244, 1246, 1248, 1250, 1252, 1254, 1256, 1258, 1260, 1262] (by rfl)
set_option maxRecDepth 100000 in
theorem zt_wsX30 : ∀ w ∈ wsX30, w ∈ lw_tbl := zidx_in [146, 148, 150, 152, 154, 156, 158, 160, 162, 164] (by rfl)
set_option maxRecDepth 100000 in
theorem zt_wsX50 : ∀ w ∈ wsX50, w ∈ lw_tbl := zidx_in [187, 189, 191, 193, 195] (by rfl)
set_option maxRecDepth 100000 in
theorem zt_wsX00 : ∀ w ∈ wsX00, w ∈ lw_tbl := zidx_in [233, 235, 237, 239, 241, 243, 245, 247, 249] (by rfl)
set_option maxRecDepth 100000 in
theorem zt_wsX20 : ∀ w ∈ wsX20, w ∈ lw_tbl := zidx_in [278, 280, 282, 284, 286, 288, 290, 292, 294] (by rfl)
set_option maxRecDepth 100000 in
theorem zt_wsX10 : ∀ w ∈ wsX10, w ∈ lw_tbl := zidx_in [310, 312, 314, 316, 318] (by rfl)
set_option maxRecDepth 100000 in
theorem zt_wsX60 : ∀ w ∈ wsX60, w ∈ lw_tbl := zidx_in [334, 336, 338, 340, 342, 344] (by rfl)
set_option maxRecDepth 100000 in
theorem zt_wsX40 : ∀ w ∈ wsX40, w ∈ lw_tbl := zidx_in [214, 216] (by rfl)
set_option maxRecDepth 100000 in
theorem zt_wsJ40 : ∀ w ∈ wsJ40, w ∈ lw_tbl := zidx_in [648, 650, 652, 654] (by rfl)
set_option maxRecDepth 100000 in
theorem zt_xa : ∀ w ∈ vx_atS RX7 155 "java/lang/IllegalStateException" ["java/lang/RuntimeException", "java/lang/Exception"], w ∈ lw_tbl := zidx_in [86, 608, 617, 620, 623, 625, 609, 610, 105, 106, 611, 616, 621, 847, 598, 848, 600, 849, 602, 612, 614, 604, 843, 844, 846, 604, 969, 970, 971, 837, 590, 837, 838, 839, 840, 592, 840, 841, 842, 843, 594, 968, 959, 960, 961, 619, 962, 963, 964, 965, 607, 606, 966] (by rfl)
set_option maxRecDepth 100000 in
theorem zt_xb : ∀ w ∈ vx_atS RX7 191 "java/lang/IllegalArgumentException" ["java/lang/RuntimeException", "java/lang/Exception"], w ∈ lw_tbl := zidx_in [86, 608, 617, 620, 623, 625, 609, 610, 105, 106, 611, 616, 621, 847, 598, 848, 600, 849, 602, 612, 614, 604, 843, 844, 846, 604, 834, 835, 836, 837, 590, 837, 838, 839, 840, 592, 840, 841, 842, 843, 594, 1068, 587, 588, 595, 596, 597, 599, 601, 603, 607, 606, 605] (by rfl)
theorem zin_app {A B T : List Cond} (a : ∀ w ∈ A, w ∈ T) (b : ∀ w ∈ B, w ∈ T) : ∀ w ∈ A ++ B, w ∈ T := fun w h => (List.mem_append.mp h).elim (a w) (b w)
theorem zt_law0 : ∀ w ∈ wsL_law0, w ∈ lw_tbl := by
  unfold wsL_law0
  exact zin_app (zin_app (zin_app (zin_app (zin_app (zin_app (zin_app (zin_app (zin_app (zin_app (zin_app (zin_app zt_wsL_law0_r1 (zin_app zt_wsL_law0_r2 (zin_app zt_wsL_law0_r3 (zin_app zt_wsL_law0_r4 (zin_app zt_wsL_law0_r5 (zin_app zt_wsL_law0_r6 (zin_app zt_wsL_law0_r7 (zin_app zt_wsL_law0_r8 (zin_app zt_wsL_law0_r9 (zin_app zt_wsL_law0_r10 (zin_app zt_wsL_law0_r11 (zin_app zt_wsL_law0_r12 (zin_app zt_wsL_law0_r13 (zin_app zt_wsL_law0_r14 (zin_app zt_wsL_law0_r15 (zin_app zt_wsL_law0_r16 (zin_app zt_wsL_law0_r17 (zin_app zt_wsL_law0_r18 (zin_app zt_wsL_law0_r19 (zin_app zt_wsL_law0_r20 (zin_app zt_wsL_law0_r21 (zin_app zt_wsL_law0_r22 (zin_app zt_wsL_law0_r23 (zin_app zt_wsL_law0_r24 (zin_app zt_wsL_law0_r25 (zin_app zt_wsL_law0_r26 (zin_app zt_wsL_law0_r27 (zin_app zt_wsL_law0_r28 (zin_app zt_wsL_law0_r29 (zin_app zt_wsL_law0_r30 (zin_app zt_wsL_law0_r31 (zin_app zt_wsL_law0_r32 (zin_app zt_wsL_law0_r33 (zin_app zt_wsL_law0_r34 (zin_app zt_wsL_law0_r35 (zin_app zt_wsL_law0_r36 (zin_app zt_wsL_law0_r37 zt_wsL_law0_r38))))))))))))))))))))))))))))))))))))) zt_wsX70) zt_wsX80) zt_wsX30) zt_wsX50) zt_wsX00) zt_wsX20) zt_wsX10) zt_wsX60) zt_wsX40) zt_wsJ40) (fun w h => absurd h List.not_mem_nil)
theorem zt_law : ∀ w ∈ wsL_law, w ∈ lw_tbl := by
  unfold wsL_law
  exact zin_app (zin_app zt_law0 (fun w h => zt_xa w (List.mem_filter.mp h).1)) (fun w h => zt_xb w (List.mem_filter.mp h).1)

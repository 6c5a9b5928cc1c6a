/-! The law's words lie in the tables: a stretch at a time -/
set_option maxRecDepth 20000 in
theorem wsL_r1_in : ∀ w ∈ wsL_law_r1, w ∈ lw_tbl := fun w h => (goodIn_p (big := lw_tbl) wsL_law_r1 [121, 124] rfl (by decide +kernel) w h).1
set_option maxRecDepth 20000 in
theorem wsL_r2_in : ∀ w ∈ wsL_law_r2, w ∈ lw_tbl := fun w h => (goodIn_p (big := lw_tbl) wsL_law_r2 [129] rfl (by decide +kernel) w h).1
set_option maxRecDepth 20000 in
theorem wsL_r3_in : ∀ w ∈ wsL_law_r3, w ∈ lw_tbl := fun w h => (goodIn_p (big := lw_tbl) wsL_law_r3 [167, 208, 243] rfl (by decide +kernel) w h).1
set_option maxRecDepth 20000 in
theorem wsL_r4_in : ∀ w ∈ wsL_law_r4, w ∈ lw_tbl := fun w h => (goodIn_p (big := lw_tbl) wsL_law_r4 [1194] rfl (by decide +kernel) w h).1
set_option maxRecDepth 20000 in
theorem wsL_r5_in : ∀ w ∈ wsL_law_r5, w ∈ lw_tbl := fun w h => (goodIn_p (big := lw_tbl) wsL_law_r5 [] rfl (by decide +kernel) w h).1
set_option maxRecDepth 20000 in
theorem wsL_r6_in : ∀ w ∈ wsL_law_r6, w ∈ lw_tbl := fun w h => (goodIn_p (big := lw_tbl) wsL_law_r6 [302, 305, 308] rfl (by decide +kernel) w h).1
set_option maxRecDepth 20000 in
theorem wsL_r7_in : ∀ w ∈ wsL_law_r7, w ∈ lw_tbl := fun w h => (goodIn_p (big := lw_tbl) wsL_law_r7 [313, 316] rfl (by decide +kernel) w h).1
set_option maxRecDepth 20000 in
theorem wsL_r8_in : ∀ w ∈ wsL_law_r8, w ∈ lw_tbl := fun w h => (goodIn_p (big := lw_tbl) wsL_law_r8 [374, 386, 398, 410, 422] rfl (by decide +kernel) w h).1
set_option maxRecDepth 20000 in
theorem wsL_r9_in : ∀ w ∈ wsL_law_r9, w ∈ lw_tbl := fun w h => (goodIn_p (big := lw_tbl) wsL_law_r9 [442, 445, 1353, 1357, 449] rfl (by decide +kernel) w h).1
set_option maxRecDepth 20000 in
theorem wsL_r10_in : ∀ w ∈ wsL_law_r10, w ∈ lw_tbl := fun w h => (goodIn_p (big := lw_tbl) wsL_law_r10 [453, 460, 476, 463, 466, 469] rfl (by decide +kernel) w h).1
set_option maxRecDepth 20000 in
theorem wsL_r11_in : ∀ w ∈ wsL_law_r11, w ∈ lw_tbl := fun w h => (goodIn_p (big := lw_tbl) wsL_law_r11 [472, 475, 480, 483, 487, 490, 495] rfl (by decide +kernel) w h).1
set_option maxRecDepth 20000 in
theorem wsL_r12_in : ∀ w ∈ wsL_law_r12, w ∈ lw_tbl := fun w h => (goodIn_p (big := lw_tbl) wsL_law_r12 [1361, 1365, 499, 503, 1369, 507] rfl (by decide +kernel) w h).1
set_option maxRecDepth 20000 in
theorem wsL_r13_in : ∀ w ∈ wsL_law_r13, w ∈ lw_tbl := fun w h => (goodIn_p (big := lw_tbl) wsL_law_r13 [511, 1373, 515, 518, 1377, 1381] rfl (by decide +kernel) w h).1
set_option maxRecDepth 20000 in
theorem wsL_r14_in : ∀ w ∈ wsL_law_r14, w ∈ lw_tbl := fun w h => (goodIn_p (big := lw_tbl) wsL_law_r14 [522, 1385, 526, 530, 534] rfl (by decide +kernel) w h).1
set_option maxRecDepth 20000 in
theorem wsL_r15_in : ∀ w ∈ wsL_law_r15, w ∈ lw_tbl := fun w h => (goodIn_p (big := lw_tbl) wsL_law_r15 [537, 540, 547, 551] rfl (by decide +kernel) w h).1
set_option maxRecDepth 20000 in
theorem wsL_r16_in : ∀ w ∈ wsL_law_r16, w ∈ lw_tbl := fun w h => (goodIn_p (big := lw_tbl) wsL_law_r16 [555, 558, 566, 570, 574, 580] rfl (by decide +kernel) w h).1
set_option maxRecDepth 20000 in
theorem wsL_r17_in : ∀ w ∈ wsL_law_r17, w ∈ lw_tbl := fun w h => (goodIn_p (big := lw_tbl) wsL_law_r17 [584, 587, 590, 595, 598, 601] rfl (by decide +kernel) w h).1
set_option maxRecDepth 20000 in
theorem wsL_r18_in : ∀ w ∈ wsL_law_r18, w ∈ lw_tbl := fun w h => (goodIn_p (big := lw_tbl) wsL_law_r18 [604, 608, 618, 622, 627] rfl (by decide +kernel) w h).1
set_option maxRecDepth 20000 in
theorem wsL_r19_in : ∀ w ∈ wsL_law_r19, w ∈ lw_tbl := fun w h => (goodIn_p (big := lw_tbl) wsL_law_r19 [643, 631, 639, 635, 648, 652] rfl (by decide +kernel) w h).1
set_option maxRecDepth 20000 in
theorem wsL_r20_in : ∀ w ∈ wsL_law_r20, w ∈ lw_tbl := fun w h => (goodIn_p (big := lw_tbl) wsL_law_r20 [656, 660, 663, 668, 671, 677] rfl (by decide +kernel) w h).1
set_option maxRecDepth 20000 in
theorem wsL_r21_in : ∀ w ∈ wsL_law_r21, w ∈ lw_tbl := fun w h => (goodIn_p (big := lw_tbl) wsL_law_r21 [680, 683, 686, 689, 692, 695, 698, 702] rfl (by decide +kernel) w h).1
set_option maxRecDepth 20000 in
theorem wsL_r22_in : ∀ w ∈ wsL_law_r22, w ∈ lw_tbl := fun w h => (goodIn_p (big := lw_tbl) wsL_law_r22 [708, 1389, 1393, 1397, 1401] rfl (by decide +kernel) w h).1
set_option maxRecDepth 20000 in
theorem wsL_r23_in : ∀ w ∈ wsL_law_r23, w ∈ lw_tbl := fun w h => (goodIn_p (big := lw_tbl) wsL_law_r23 [1405, 1409, 1413, 1417, 1421, 1425] rfl (by decide +kernel) w h).1
set_option maxRecDepth 20000 in
theorem wsL_r24_in : ∀ w ∈ wsL_law_r24, w ∈ lw_tbl := fun w h => (goodIn_p (big := lw_tbl) wsL_law_r24 [1429, 1433, 1437, 1441, 1445, 1449] rfl (by decide +kernel) w h).1
set_option maxRecDepth 20000 in
theorem wsL_r25_in : ∀ w ∈ wsL_law_r25, w ∈ lw_tbl := fun w h => (goodIn_p (big := lw_tbl) wsL_law_r25 [712, 718, 722, 726, 730] rfl (by decide +kernel) w h).1
set_option maxRecDepth 20000 in
theorem wsL_r26_in : ∀ w ∈ wsL_law_r26, w ∈ lw_tbl := fun w h => (goodIn_p (big := lw_tbl) wsL_law_r26 [734, 738, 742, 746, 750] rfl (by decide +kernel) w h).1
set_option maxRecDepth 20000 in
theorem wsL_r27_in : ∀ w ∈ wsL_law_r27, w ∈ lw_tbl := fun w h => (goodIn_p (big := lw_tbl) wsL_law_r27 [757, 784, 761, 765] rfl (by decide +kernel) w h).1
set_option maxRecDepth 20000 in
theorem wsL_r28_in : ∀ w ∈ wsL_law_r28, w ∈ lw_tbl := fun w h => (goodIn_p (big := lw_tbl) wsL_law_r28 [768, 774] rfl (by decide +kernel) w h).1
set_option maxRecDepth 20000 in
theorem wsL_r29_in : ∀ w ∈ wsL_law_r29, w ∈ lw_tbl := fun w h => (goodIn_p (big := lw_tbl) wsL_law_r29 [778, 791, 797] rfl (by decide +kernel) w h).1
set_option maxRecDepth 20000 in
theorem wsL_r30_in : ∀ w ∈ wsL_law_r30, w ∈ lw_tbl := fun w h => (goodIn_p (big := lw_tbl) wsL_law_r30 [801, 804, 1453, 1459] rfl (by decide +kernel) w h).1
set_option maxRecDepth 20000 in
theorem wsL_r31_in : ∀ w ∈ wsL_law_r31, w ∈ lw_tbl := fun w h => (goodIn_p (big := lw_tbl) wsL_law_r31 [1463, 1467, 1471, 1475, 1479, 1483] rfl (by decide +kernel) w h).1
set_option maxRecDepth 20000 in
theorem wsL_r32_in : ∀ w ∈ wsL_law_r32, w ∈ lw_tbl := fun w h => (goodIn_p (big := lw_tbl) wsL_law_r32 [1487, 1491, 1495, 808, 812, 816] rfl (by decide +kernel) w h).1
set_option maxRecDepth 20000 in
theorem wsL_r33_in : ∀ w ∈ wsL_law_r33, w ∈ lw_tbl := fun w h => (goodIn_p (big := lw_tbl) wsL_law_r33 [820, 827, 832, 836, 840] rfl (by decide +kernel) w h).1
set_option maxRecDepth 20000 in
theorem wsL_r34_in : ∀ w ∈ wsL_law_r34, w ∈ lw_tbl := fun w h => (goodIn_p (big := lw_tbl) wsL_law_r34 [844, 849, 1499, 1503, 1507, 1511] rfl (by decide +kernel) w h).1
set_option maxRecDepth 20000 in
theorem wsL_r35_in : ∀ w ∈ wsL_law_r35, w ∈ lw_tbl := fun w h => (goodIn_p (big := lw_tbl) wsL_law_r35 [1515, 853, 857, 861, 865] rfl (by decide +kernel) w h).1
set_option maxRecDepth 20000 in
theorem wsL_r36_in : ∀ w ∈ wsL_law_r36, w ∈ lw_tbl := fun w h => (goodIn_p (big := lw_tbl) wsL_law_r36 [870, 873, 879] rfl (by decide +kernel) w h).1
set_option maxRecDepth 20000 in
theorem wsL_r37_in : ∀ w ∈ wsL_law_r37, w ∈ lw_tbl := fun w h => (goodIn_p (big := lw_tbl) wsL_law_r37 [1519, 1523, 889, 893, 896, 900] rfl (by decide +kernel) w h).1
set_option maxRecDepth 20000 in
theorem wsL_r38_in : ∀ w ∈ wsL_law_r38, w ∈ lw_tbl := fun w h => (goodIn_p (big := lw_tbl) wsL_law_r38 [1527, 1531, 1535, 1539, 1543, 904] rfl (by decide +kernel) w h).1
set_option maxRecDepth 20000 in
theorem wsL_r39_in : ∀ w ∈ wsL_law_r39, w ∈ lw_tbl := fun w h => (goodIn_p (big := lw_tbl) wsL_law_r39 [1547, 908, 912, 916, 920, 924] rfl (by decide +kernel) w h).1
set_option maxRecDepth 20000 in
theorem wsL_r40_in : ∀ w ∈ wsL_law_r40, w ∈ lw_tbl := fun w h => (goodIn_p (big := lw_tbl) wsL_law_r40 [932, 938, 941, 945] rfl (by decide +kernel) w h).1
set_option maxRecDepth 20000 in
theorem wsL_r41_in : ∀ w ∈ wsL_law_r41, w ∈ lw_tbl := fun w h => (goodIn_p (big := lw_tbl) wsL_law_r41 [1551, 1555, 1559, 1563, 1567, 1571] rfl (by decide +kernel) w h).1
set_option maxRecDepth 20000 in
theorem wsL_r42_in : ∀ w ∈ wsL_law_r42, w ∈ lw_tbl := fun w h => (goodIn_p (big := lw_tbl) wsL_law_r42 [949, 953, 957, 1575, 1579, 961] rfl (by decide +kernel) w h).1
set_option maxRecDepth 20000 in
theorem wsL_r43_in : ∀ w ∈ wsL_law_r43, w ∈ lw_tbl := fun w h => (goodIn_p (big := lw_tbl) wsL_law_r43 [965, 1583, 969, 1587, 1591] rfl (by decide +kernel) w h).1
set_option maxRecDepth 20000 in
theorem wsL_r44_in : ∀ w ∈ wsL_law_r44, w ∈ lw_tbl := fun w h => (goodIn_p (big := lw_tbl) wsL_law_r44 [974, 978, 983, 986, 993] rfl (by decide +kernel) w h).1
set_option maxRecDepth 20000 in
theorem wsL_r45_in : ∀ w ∈ wsL_law_r45, w ∈ lw_tbl := fun w h => (goodIn_p (big := lw_tbl) wsL_law_r45 [1595, 1599, 1603, 998, 1002, 1607] rfl (by decide +kernel) w h).1
set_option maxRecDepth 20000 in
theorem wsL_r46_in : ∀ w ∈ wsL_law_r46, w ∈ lw_tbl := fun w h => (goodIn_p (big := lw_tbl) wsL_law_r46 [1611, 1007, 1615, 1012, 1619] rfl (by decide +kernel) w h).1
set_option maxRecDepth 20000 in
theorem wsL_r47_in : ∀ w ∈ wsL_law_r47, w ∈ lw_tbl := fun w h => (goodIn_p (big := lw_tbl) wsL_law_r47 [1016, 1021, 1623, 1629, 1028] rfl (by decide +kernel) w h).1
set_option maxRecDepth 20000 in
theorem wsL_r48_in : ∀ w ∈ wsL_law_r48, w ∈ lw_tbl := fun w h => (goodIn_p (big := lw_tbl) wsL_law_r48 [1032, 1035, 1633, 1637, 1040, 1043] rfl (by decide +kernel) w h).1
set_option maxRecDepth 20000 in
theorem wsL_r49_in : ∀ w ∈ wsL_law_r49, w ∈ lw_tbl := fun w h => (goodIn_p (big := lw_tbl) wsL_law_r49 [1047, 1643, 1647, 1051, 1055] rfl (by decide +kernel) w h).1
set_option maxRecDepth 20000 in
theorem wsL_r50_in : ∀ w ∈ wsL_law_r50, w ∈ lw_tbl := fun w h => (goodIn_p (big := lw_tbl) wsL_law_r50 [1651, 1059, 1655, 1063, 1067, 1074] rfl (by decide +kernel) w h).1
set_option maxRecDepth 20000 in
theorem wsL_r51_in : ∀ w ∈ wsL_law_r51, w ∈ lw_tbl := fun w h => (goodIn_p (big := lw_tbl) wsL_law_r51 [1078, 1096, 1083, 1090] rfl (by decide +kernel) w h).1
set_option maxRecDepth 20000 in
theorem wsL_r52_in : ∀ w ∈ wsL_law_r52, w ∈ lw_tbl := fun w h => (goodIn_p (big := lw_tbl) wsL_law_r52 [1120, 1105, 1110, 1116] rfl (by decide +kernel) w h).1
set_option maxRecDepth 20000 in
theorem wsL_r53_in : ∀ w ∈ wsL_law_r53, w ∈ lw_tbl := fun w h => (goodIn_p (big := lw_tbl) wsL_law_r53 [1128, 1145, 1136] rfl (by decide +kernel) w h).1
set_option maxRecDepth 20000 in
theorem wsL_r54_in : ∀ w ∈ wsL_law_r54, w ∈ lw_tbl := fun w h => (goodIn_p (big := lw_tbl) wsL_law_r54 [1659, 1663, 1667, 1671, 1675] rfl (by decide +kernel) w h).1
set_option maxRecDepth 20000 in
theorem wsL_r55_in : ∀ w ∈ wsL_law_r55, w ∈ lw_tbl := fun w h => (goodIn_p (big := lw_tbl) wsL_law_r55 [1679, 1683, 1687, 1691, 1150, 1154] rfl (by decide +kernel) w h).1
set_option maxRecDepth 20000 in
theorem wsL_r56_in : ∀ w ∈ wsL_law_r56, w ∈ lw_tbl := fun w h => (goodIn_p (big := lw_tbl) wsL_law_r56 [1695, 1158, 1161, 1699, 1165] rfl (by decide +kernel) w h).1
set_option maxRecDepth 20000 in
theorem wsL_r57_in : ∀ w ∈ wsL_law_r57, w ∈ lw_tbl := fun w h => (goodIn_p (big := lw_tbl) wsL_law_r57 [1703, 1169, 1707, 1173, 1176, 1711] rfl (by decide +kernel) w h).1
set_option maxRecDepth 20000 in
theorem wsL_r58_in : ∀ w ∈ wsL_law_r58, w ∈ lw_tbl := fun w h => (goodIn_p (big := lw_tbl) wsL_law_r58 [1715, 1180, 1719, 1184, 1188, 1723] rfl (by decide +kernel) w h).1
theorem t_wsX110 : ∀ w ∈ wsX110, w ∈ lw_tbl := by decide +kernel
theorem t_wsX120 : ∀ w ∈ wsX120, w ∈ lw_tbl := by decide +kernel
theorem t_wsX70 : ∀ w ∈ wsX70, w ∈ lw_tbl := by decide +kernel
theorem t_wsX50 : ∀ w ∈ wsX50, w ∈ lw_tbl := by decide +kernel
theorem t_wsX60 : ∀ w ∈ wsX60, w ∈ lw_tbl := by decide +kernel
theorem t_wsX90 : ∀ w ∈ wsX90, w ∈ lw_tbl := by decide +kernel
theorem t_wsX10 : ∀ w ∈ wsX10, w ∈ lw_tbl := by decide +kernel
theorem t_wsX80 : ∀ w ∈ wsX80, w ∈ lw_tbl := by decide +kernel
theorem t_wsX100 : ∀ w ∈ wsX100, w ∈ lw_tbl := by decide +kernel
theorem t_wsX30 : ∀ w ∈ wsX30, w ∈ lw_tbl := by decide +kernel
theorem t_wsX00 : ∀ w ∈ wsX00, w ∈ lw_tbl := by decide +kernel
theorem t_wsX20 : ∀ w ∈ wsX20, w ∈ lw_tbl := by decide +kernel
theorem t_wsX40 : ∀ w ∈ wsX40, w ∈ lw_tbl := by decide +kernel

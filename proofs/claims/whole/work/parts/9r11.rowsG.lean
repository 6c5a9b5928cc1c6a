/-! What the law's words hold of its callees: a stretch -/
set_option maxRecDepth 20000 in
theorem ggL_law_X11_both : GoodIn wsL_law wsX11_both := goodIn_r _ [1126, 1105, 1127, 1128, 1129, 2, 1130, 16, 216, 217, 218, 15, 219, 196, 44, 1131, 1132, 1133, 1134, 1043, 1044, 1045, 1046, 1047, 1048, 1392, 1393, 1394, 1395, 1396, 1397, 1398, 1399, 1400, 1401, 1402, 1403, 1404, 1405, 1457, 1458, 1459, 1460, 1461, 1462, 1463] (by decide +kernel) (by decide +kernel)
set_option maxRecDepth 20000 in
theorem gL_law_X11_both : GoodIn wsL_law (wsV RL 105 RX11 yX11_both wsX11_both) := goodIn_app (goodIn_of _ (by decide +kernel)) ggL_law_X11_both
set_option maxRecDepth 20000 in
theorem ggL_law_X12_both : GoodIn wsL_law wsX12_both := goodIn_r _ [1138, 1117, 1139, 1140, 1141, 1142, 1143, 5, 1144, 268, 269, 270, 271, 75, 203, 204, 205, 206, 1058, 1059, 1060, 1061, 1406, 1407, 1408, 1409, 1410, 1411, 1412, 1413, 1414, 1415, 1416, 1417, 1418, 1419, 1420, 1421, 1422, 1423, 1424, 1425, 1426, 1427, 1428, 1429, 1430, 1431, 1432, 1433, 1434, 1435, 1436, 1437, 1438, 1439, 1440, 1441, 1442, 1443, 1444, 1445, 1446, 1447, 1448, 1449, 1450, 1451, 1452, 1453, 1454, 1455, 1456] (by decide +kernel) (by decide +kernel)
set_option maxRecDepth 20000 in
theorem gL_law_X12_both : GoodIn wsL_law (wsV RL 109 RX12 yX12_both wsX12_both) := goodIn_app (goodIn_of _ (by decide +kernel)) ggL_law_X12_both
set_option maxRecDepth 20000 in
theorem ggL_law_X11_judge : GoodIn wsL_law wsX11_judge := goodIn_r _ [1148, 37, 16, 130, 38, 35, 215, 1149, 1150, 2, 1151, 1152, 1153, 1154, 1155, 259, 197, 198, 1392, 1393, 1394, 1395, 1396, 1397, 1398, 1399, 1400, 1401, 1402, 1403, 1404, 1405, 1457, 1458, 1459, 1460, 1461, 1462, 1463] (by decide +kernel) (by decide +kernel)
set_option maxRecDepth 20000 in
theorem gL_law_X11_judge : GoodIn wsL_law (wsV RL 110 RX11 yX11_judge wsX11_judge) := goodIn_app (goodIn_of _ (by decide +kernel)) ggL_law_X11_judge
set_option maxRecDepth 20000 in
theorem ggL_law_X12_judge : GoodIn wsL_law wsX12_judge := goodIn_r _ [1159, 122, 75, 123, 124, 83, 1160, 1161, 1162, 5, 1163, 203, 204, 205, 206, 1406, 1407, 1408, 1409, 1410, 1411, 1412, 1413, 1414, 1415, 1416, 1417, 1418, 1419, 1420, 1421, 1422, 1423, 1424, 1425, 1426, 1427, 1428, 1429, 1430, 1431, 1432, 1433, 1434, 1435, 1436, 1437, 1438, 1439, 1440, 1441, 1442, 1443, 1444, 1445, 1446, 1447, 1448, 1449, 1450, 1451, 1452, 1453, 1454, 1455, 1456] (by decide +kernel) (by decide +kernel)
set_option maxRecDepth 20000 in
theorem gL_law_X12_judge : GoodIn wsL_law (wsV RL 113 RX12 yX12_judge wsX12_judge) := goodIn_app (goodIn_of _ (by decide +kernel)) ggL_law_X12_judge

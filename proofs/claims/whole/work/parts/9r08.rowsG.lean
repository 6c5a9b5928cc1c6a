/-! What the law's words hold of its callees: a stretch -/
set_option maxRecDepth 20000 in
theorem ggL_law_X11_named : GoodIn wsL_law wsX11_named := goodIn_r _ [1019, 16, 216, 217, 218, 15, 219, 196, 44, 1020, 672, 673, 674, 675, 592, 593, 594, 46, 1392, 1393, 1394, 1395, 1396, 1397, 1398, 1399, 1400, 1401, 1402, 1403, 1404, 1405, 1457, 1458, 1459, 1460, 1461, 1462, 1463] (by decide +kernel) (by decide +kernel)
set_option maxRecDepth 20000 in
theorem gL_law_X11_named : GoodIn wsL_law (wsV RL 80 RX11 yX11_named wsX11_named) := goodIn_app (goodIn_of _ (by decide +kernel)) ggL_law_X11_named
set_option maxRecDepth 20000 in
theorem ggL_law_X12_named : GoodIn wsL_law wsX12_named := goodIn_r _ [1024, 268, 269, 270, 5, 271, 75, 203, 204, 205, 206, 1025, 1026, 1027, 1028, 82, 1406, 1407, 1408, 1409, 1410, 1411, 1412, 1413, 1414, 1415, 1416, 1417, 1418, 1419, 1420, 1421, 1422, 1423, 1424, 1425, 1426, 1427, 1428, 1429, 1430, 1431, 1432, 1433, 1434, 1435, 1436, 1437, 1438, 1439, 1440, 1441, 1442, 1443, 1444, 1445, 1446, 1447, 1448, 1449, 1450, 1451, 1452, 1453, 1454, 1455, 1456] (by decide +kernel) (by decide +kernel)
set_option maxRecDepth 20000 in
theorem gL_law_X12_named : GoodIn wsL_law (wsV RL 83 RX12 yX12_named wsX12_named) := goodIn_app (goodIn_of _ (by decide +kernel)) ggL_law_X12_named
set_option maxRecDepth 20000 in
theorem ggL_law_X11_slips : GoodIn wsL_law wsX11_slips := goodIn_r _ [1032, 16, 1033, 1034, 1035, 15, 1036, 196, 1037, 672, 673, 674, 675, 592, 593, 594, 46, 1038, 1039, 1040, 1041, 1042, 1043, 1044, 1045, 1046, 1047, 1048, 1049, 1050, 1051, 1052, 250, 2, 251, 1053, 253, 254, 255, 1392, 1393, 1394, 1395, 1396, 1397, 1398, 1399, 1400, 1401, 1402, 1403, 1404, 1405, 1457, 1458, 1459, 1460, 1461, 1462, 1463] (by decide +kernel) (by decide +kernel)
set_option maxRecDepth 20000 in
theorem gL_law_X11_slips : GoodIn wsL_law (wsV RL 84 RX11 yX11_slips wsX11_slips) := goodIn_app (goodIn_of _ (by decide +kernel)) ggL_law_X11_slips
set_option maxRecDepth 20000 in
theorem ggL_law_X12_slips : GoodIn wsL_law wsX12_slips := goodIn_r _ [1057, 75, 203, 204, 205, 5, 206, 1025, 1026, 1027, 1028, 82, 1058, 1059, 1060, 1061, 1062, 1063, 1064, 1065, 976, 977, 978, 979, 1406, 1407, 1408, 1409, 1410, 1411, 1412, 1413, 1414, 1415, 1416, 1417, 1418, 1419, 1420, 1421, 1422, 1423, 1424, 1425, 1426, 1427, 1428, 1429, 1430, 1431, 1432, 1433, 1434, 1435, 1436, 1437, 1438, 1439, 1440, 1441, 1442, 1443, 1444, 1445, 1446, 1447, 1448, 1449, 1450, 1451, 1452, 1453, 1454, 1455, 1456] (by decide +kernel) (by decide +kernel)
set_option maxRecDepth 20000 in
theorem gL_law_X12_slips : GoodIn wsL_law (wsV RL 87 RX12 yX12_slips wsX12_slips) := goodIn_app (goodIn_of _ (by decide +kernel)) ggL_law_X12_slips

/-! What the law's words hold of its callees: a stretch -/
set_option maxRecDepth 20000 in
theorem ggL_law_X11_month : GoodIn wsL_law wsX11_month := goodIn_r _ [1069, 16, 1070, 1071, 1072, 15, 1073, 45, 846, 1074, 843, 844, 845, 847, 848, 849, 850, 851, 335, 336, 337, 852, 339, 340, 853, 854, 855, 856, 857, 858, 859, 1392, 1393, 1394, 1395, 1396, 1397, 1398, 1399, 1400, 1401, 1402, 1403, 1404, 1405, 1457, 1458, 1459, 1460, 1461, 1462, 1463] (by decide +kernel) (by decide +kernel)
set_option maxRecDepth 20000 in
theorem gL_law_X11_month : GoodIn wsL_law (wsV RL 88 RX11 yX11_month wsX11_month) := goodIn_app (goodIn_of _ (by decide +kernel)) ggL_law_X11_month
set_option maxRecDepth 20000 in
theorem ggL_law_X12_month : GoodIn wsL_law wsX12_month := goodIn_r _ [1078, 84, 86, 76, 1079, 1080, 1081, 5, 1082, 1406, 1407, 1408, 1409, 1410, 1411, 1412, 1413, 1414, 1415, 1416, 1417, 1418, 1419, 1420, 1421, 1422, 1423, 1424, 1425, 1426, 1427, 1428, 1429, 1430, 1431, 1432, 1433, 1434, 1435, 1436, 1437, 1438, 1439, 1440, 1441, 1442, 1443, 1444, 1445, 1446, 1447, 1448, 1449, 1450, 1451, 1452, 1453, 1454, 1455, 1456] (by decide +kernel) (by decide +kernel)
set_option maxRecDepth 20000 in
theorem gL_law_X12_month : GoodIn wsL_law (wsV RL 91 RX12 yX12_month wsX12_month) := goodIn_app (goodIn_of _ (by decide +kernel)) ggL_law_X12_month
set_option maxRecDepth 20000 in
theorem ggL_law_X11_lacks : GoodIn wsL_law wsX11_lacks := goodIn_r _ [1086, 16, 130, 1087, 1088, 854, 855, 856, 857, 858, 859, 1392, 1393, 1394, 1395, 1396, 1397, 1398, 1399, 1400, 1401, 1402, 1403, 1404, 1405, 1457, 1458, 1459, 1460, 1461, 1462, 1463] (by decide +kernel) (by decide +kernel)
set_option maxRecDepth 20000 in
theorem gL_law_X11_lacks : GoodIn wsL_law (wsV RL 92 RX11 yX11_lacks wsX11_lacks) := goodIn_app (goodIn_of _ (by decide +kernel)) ggL_law_X11_lacks
set_option maxRecDepth 20000 in
theorem ggL_law_X12_lacks : GoodIn wsL_law wsX12_lacks := goodIn_r _ [1092, 75, 86, 203, 204, 205, 5, 206, 1406, 1407, 1408, 1409, 1410, 1411, 1412, 1413, 1414, 1415, 1416, 1417, 1418, 1419, 1420, 1421, 1422, 1423, 1424, 1425, 1426, 1427, 1428, 1429, 1430, 1431, 1432, 1433, 1434, 1435, 1436, 1437, 1438, 1439, 1440, 1441, 1442, 1443, 1444, 1445, 1446, 1447, 1448, 1449, 1450, 1451, 1452, 1453, 1454, 1455, 1456] (by decide +kernel) (by decide +kernel)
set_option maxRecDepth 20000 in
theorem gL_law_X12_lacks : GoodIn wsL_law (wsV RL 95 RX12 yX12_lacks wsX12_lacks) := goodIn_app (goodIn_of _ (by decide +kernel)) ggL_law_X12_lacks

/-! What the law's words hold of its callees: a stretch -/
set_option maxRecDepth 20000 in
theorem ggL_law_X11_name : GoodIn wsL_law wsX11_name := goodIn_r _ [287, 16, 131, 216, 217, 218, 15, 219, 196, 44, 252, 253, 254, 255, 46, 288, 289, 290, 291, 256, 257, 2, 258, 1392, 1393, 1394, 1395, 1396, 1397, 1398, 1399, 1400, 1401, 1402, 1403, 1404, 1405, 1457, 1458, 1459, 1460, 1461, 1462, 1463] (by decide +kernel) (by decide +kernel)
set_option maxRecDepth 20000 in
theorem gL_law_X11_name : GoodIn wsL_law (wsV RL 28 RX11 yX11_name wsX11_name) := goodIn_app (goodIn_of _ (by decide +kernel)) ggL_law_X11_name
set_option maxRecDepth 20000 in
theorem ggL_law_X12_name : GoodIn wsL_law wsX12_name := goodIn_r _ [295, 82, 268, 269, 270, 5, 271, 75, 203, 204, 205, 206, 1406, 1407, 1408, 1409, 1410, 1411, 1412, 1413, 1414, 1415, 1416, 1417, 1418, 1419, 1420, 1421, 1422, 1423, 1424, 1425, 1426, 1427, 1428, 1429, 1430, 1431, 1432, 1433, 1434, 1435, 1436, 1437, 1438, 1439, 1440, 1441, 1442, 1443, 1444, 1445, 1446, 1447, 1448, 1449, 1450, 1451, 1452, 1453, 1454, 1455, 1456] (by decide +kernel) (by decide +kernel)
set_option maxRecDepth 20000 in
theorem gL_law_X12_name : GoodIn wsL_law (wsV RL 31 RX12 yX12_name wsX12_name) := goodIn_app (goodIn_of _ (by decide +kernel)) ggL_law_X12_name
set_option maxRecDepth 20000 in
theorem ggL_law_X11_sit : GoodIn wsL_law wsX11_sit := goodIn_r _ [299, 16, 215, 216, 217, 218, 15, 219, 196, 44, 259, 197, 2, 198, 300, 301, 302, 1392, 1393, 1394, 1395, 1396, 1397, 1398, 1399, 1400, 1401, 1402, 1403, 1404, 1405, 1457, 1458, 1459, 1460, 1461, 1462, 1463] (by decide +kernel) (by decide +kernel)
set_option maxRecDepth 20000 in
theorem gL_law_X11_sit : GoodIn wsL_law (wsV RL 32 RX11 yX11_sit wsX11_sit) := goodIn_app (goodIn_of _ (by decide +kernel)) ggL_law_X11_sit
set_option maxRecDepth 20000 in
theorem ggL_law_X12_sit : GoodIn wsL_law wsX12_sit := goodIn_r _ [306, 83, 84, 268, 269, 270, 5, 271, 75, 203, 204, 205, 206, 307, 308, 309, 310, 1406, 1407, 1408, 1409, 1410, 1411, 1412, 1413, 1414, 1415, 1416, 1417, 1418, 1419, 1420, 1421, 1422, 1423, 1424, 1425, 1426, 1427, 1428, 1429, 1430, 1431, 1432, 1433, 1434, 1435, 1436, 1437, 1438, 1439, 1440, 1441, 1442, 1443, 1444, 1445, 1446, 1447, 1448, 1449, 1450, 1451, 1452, 1453, 1454, 1455, 1456] (by decide +kernel) (by decide +kernel)
set_option maxRecDepth 20000 in
theorem gL_law_X12_sit : GoodIn wsL_law (wsV RL 35 RX12 yX12_sit wsX12_sit) := goodIn_app (goodIn_of _ (by decide +kernel)) ggL_law_X12_sit

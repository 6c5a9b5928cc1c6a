/-! What the law's words hold of its callees: a stretch -/
set_option maxRecDepth 20000 in
theorem ggL_law_X11_of : GoodIn wsL_law wsX11_of := goodIn_r _ [210, 16, 211, 212, 213, 214, 215, 216, 217, 218, 15, 219, 196, 44, 220, 221, 222, 223, 224, 152, 225, 226, 227, 228, 140, 229, 230, 231, 155, 232, 233, 234, 149, 235, 236, 237, 238, 158, 239, 240, 143, 241, 242, 243, 146, 244, 245, 246, 247, 248, 249, 250, 2, 251, 252, 253, 254, 255, 46, 256, 257, 258, 259, 197, 198, 260, 261, 262, 263, 45, 1392, 1393, 1394, 1395, 1396, 1397, 1398, 1399, 1400, 1401, 1402, 1403, 1404, 1405, 1505, 1506, 1507, 1508, 1509, 1485, 1486, 1487, 1488, 1489, 1510, 1511, 1512, 1513, 1514, 1500, 1501, 1502, 1503, 1504, 1515, 1516, 1517, 1518, 1519, 1490, 1491, 1492, 1493, 1494, 1495, 1496, 1497, 1498, 1499, 1457, 1458, 1459, 1460, 1461, 1462, 1463] (by decide +kernel) (by decide +kernel)
set_option maxRecDepth 20000 in
theorem gL_law_X11_of : GoodIn wsL_law (wsV RL 18 RX11 yX11_of wsX11_of) := goodIn_app (goodIn_of _ (by decide +kernel)) ggL_law_X11_of
set_option maxRecDepth 20000 in
theorem ggL_law_X12_of : GoodIn wsL_law wsX12_of := goodIn_r _ [267, 84, 83, 77, 78, 79, 80, 81, 85, 82, 268, 269, 270, 5, 271, 75, 203, 204, 205, 206, 1406, 1407, 1408, 1409, 1410, 1411, 1412, 1413, 1414, 1415, 1416, 1417, 1418, 1419, 1420, 1421, 1422, 1423, 1424, 1425, 1426, 1427, 1428, 1429, 1430, 1431, 1432, 1433, 1434, 1435, 1436, 1437, 1438, 1439, 1440, 1441, 1442, 1443, 1444, 1445, 1446, 1447, 1448, 1449, 1450, 1451, 1452, 1453, 1454, 1455, 1456] (by decide +kernel) (by decide +kernel)
set_option maxRecDepth 20000 in
theorem gL_law_X12_of : GoodIn wsL_law (wsV RL 22 RX12 yX12_of wsX12_of) := goodIn_app (goodIn_of _ (by decide +kernel)) ggL_law_X12_of
set_option maxRecDepth 20000 in
theorem ggL_law_X11_front : GoodIn wsL_law wsX11_front := goodIn_r _ [275, 16, 216, 217, 218, 15, 219, 196, 44, 245, 246, 247, 248, 249, 250, 2, 251, 276, 277, 278, 279, 1392, 1393, 1394, 1395, 1396, 1397, 1398, 1399, 1400, 1401, 1402, 1403, 1404, 1405, 1457, 1458, 1459, 1460, 1461, 1462, 1463] (by decide +kernel) (by decide +kernel)
set_option maxRecDepth 20000 in
theorem gL_law_X11_front : GoodIn wsL_law (wsV RL 23 RX11 yX11_front wsX11_front) := goodIn_app (goodIn_of _ (by decide +kernel)) ggL_law_X11_front
set_option maxRecDepth 20000 in
theorem ggL_law_X12_front : GoodIn wsL_law wsX12_front := goodIn_r _ [283, 85, 268, 269, 270, 5, 271, 75, 203, 204, 205, 206, 1406, 1407, 1408, 1409, 1410, 1411, 1412, 1413, 1414, 1415, 1416, 1417, 1418, 1419, 1420, 1421, 1422, 1423, 1424, 1425, 1426, 1427, 1428, 1429, 1430, 1431, 1432, 1433, 1434, 1435, 1436, 1437, 1438, 1439, 1440, 1441, 1442, 1443, 1444, 1445, 1446, 1447, 1448, 1449, 1450, 1451, 1452, 1453, 1454, 1455, 1456] (by decide +kernel) (by decide +kernel)
set_option maxRecDepth 20000 in
theorem gL_law_X12_front : GoodIn wsL_law (wsV RL 27 RX12 yX12_front wsX12_front) := goodIn_app (goodIn_of _ (by decide +kernel)) ggL_law_X12_front

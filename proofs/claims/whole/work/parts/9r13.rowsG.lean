/-! What the law's words hold of its callees: a stretch -/
set_option maxRecDepth 20000 in
theorem ggL_law_X11_act : GoodIn wsL_law wsX11_act := goodIn_r _ [1188, 32, 16, 1189, 1190, 1191, 31, 1192, 1193, 216, 217, 218, 15, 219, 196, 44, 1194, 1195, 1196, 1197, 1198, 143, 1199, 1200, 1201, 1202, 1203, 70, 1204, 628, 1205, 158, 1206, 166, 1207, 1208, 1209, 1210, 155, 1211, 647, 648, 1212, 1213, 1214, 149, 1215, 1216, 1217, 1218, 1219, 1220, 1221, 1222, 1223, 1224, 1225, 167, 1226, 1227, 1228, 1229, 1230, 140, 1231, 1232, 1233, 640, 1234, 1235, 1236, 1237, 1238, 1239, 1240, 1241, 679, 1242, 1243, 1244, 1245, 1246, 1247, 1248, 1249, 1250, 152, 1251, 1252, 1253, 1254, 1255, 1256, 1257, 1258, 1259, 1260, 1261, 146, 1262, 1263, 1264, 660, 1265, 1266, 1267, 1268, 1269, 1270, 1271, 1272, 1273, 1392, 1393, 1394, 1395, 1396, 1397, 1398, 1399, 1400, 1401, 1402, 1403, 1404, 1405, 1483, 1484, 1457, 1458, 1459, 1460, 1461, 1462, 1463, 1505, 1506, 1507, 1508, 1509, 1485, 1486, 1487, 1488, 1489, 1510, 1511, 1512, 1513, 1514, 1500, 1501, 1502, 1503, 1504, 1515, 1516, 1517, 1518, 1519, 1490, 1491, 1492, 1493, 1494, 1495, 1496, 1497, 1498, 1499] (by decide +kernel) (by decide +kernel)
set_option maxRecDepth 20000 in
theorem gL_law_X11_act : GoodIn wsL_law (wsV RL 122 RX11 yX11_act wsX11_act) := goodIn_app (goodIn_of _ (by decide +kernel)) ggL_law_X11_act
set_option maxRecDepth 20000 in
theorem ggL_law_X12_act : GoodIn wsL_law wsX12_act := goodIn_r _ [1277, 120, 268, 269, 270, 5, 271, 75, 203, 204, 205, 206, 1278, 1279, 1280, 1281, 77, 78, 1282, 1283, 1284, 1285, 121, 1286, 1287, 1288, 1289, 1290, 1291, 1292, 1293, 1294, 1295, 1296, 1297, 1298, 1299, 1300, 1301, 1302, 1303, 1304, 1305, 1306, 1307, 1308, 1309, 1406, 1407, 1408, 1409, 1410, 1411, 1412, 1413, 1414, 1415, 1416, 1417, 1418, 1419, 1420, 1421, 1422, 1423, 1424, 1425, 1426, 1427, 1428, 1429, 1430, 1431, 1432, 1433, 1434, 1435, 1436, 1437, 1438, 1439, 1440, 1441, 1442, 1443, 1444, 1445, 1446, 1447, 1448, 1449, 1450, 1451, 1452, 1453, 1454, 1455, 1456] (by decide +kernel) (by decide +kernel)
set_option maxRecDepth 20000 in
theorem gL_law_X12_act : GoodIn wsL_law (wsV RL 125 RX12 yX12_act wsX12_act) := goodIn_app (goodIn_of _ (by decide +kernel)) ggL_law_X12_act
set_option maxRecDepth 20000 in
theorem ggL_law_X11_trace : GoodIn wsL_law wsX11_trace := goodIn_r _ [1313, 32, 1314, 1315, 1316, 31, 1317, 1193, 70, 1392, 1393, 1394, 1395, 1396, 1397, 1398, 1399, 1400, 1401, 1402, 1403, 1404, 1405, 1483, 1484] (by decide +kernel) (by decide +kernel)
set_option maxRecDepth 20000 in
theorem gL_law_X11_trace : GoodIn wsL_law (wsV RL 126 RX11 yX11_trace wsX11_trace) := goodIn_app (goodIn_of _ (by decide +kernel)) ggL_law_X11_trace
set_option maxRecDepth 20000 in
theorem ggL_law_X12_trace : GoodIn wsL_law wsX12_trace := goodIn_r _ [1321, 120, 121, 203, 204, 205, 5, 206, 1406, 1407, 1408, 1409, 1410, 1411, 1412, 1413, 1414, 1415, 1416, 1417, 1418, 1419, 1420, 1421, 1422, 1423, 1424, 1425, 1426, 1427, 1428, 1429, 1430, 1431, 1432, 1433, 1434, 1435, 1436, 1437, 1438, 1439, 1440, 1441, 1442, 1443, 1444, 1445, 1446, 1447, 1448, 1449, 1450, 1451, 1452, 1453, 1454, 1455, 1456] (by decide +kernel) (by decide +kernel)
set_option maxRecDepth 20000 in
theorem gL_law_X12_trace : GoodIn wsL_law (wsV RL 129 RX12 yX12_trace wsX12_trace) := goodIn_app (goodIn_of _ (by decide +kernel)) ggL_law_X12_trace

/-! THE LAW'S ROWS: what its calls want of the words -/
set_option maxRecDepth 20000 in
theorem ggL_law_X13_rowOdds : GoodIn wsL_law wsX13_rowOdds := goodIn_r _ [1259, 129, 358, 1240, 553, 554, 555, 5, 556, 361, 362, 363, 364, 356, 100, 557, 558, 559, 560, 102, 561, 562, 563, 564, 589, 590, 591, 1245, 1246, 1247, 694, 695, 696, 697, 488, 489, 490, 491, 698, 699, 700, 1472, 1473, 1474, 1475, 1476, 1477, 1478, 1479, 1480, 1481, 1482, 1483, 1484, 1485, 1486, 1487, 1488, 1489, 1490, 1491, 1492, 1493, 1494, 1495, 1496, 1497, 1498, 1499, 1500, 1501, 1502, 1503, 1504, 1505, 1506, 1507, 1508, 1509, 1557, 1558, 1559, 1560, 1561, 1562, 1563, 1564, 1565, 1566, 1567, 1568, 1569, 1570, 1571, 1572] (by decide +kernel) (by decide +kernel)
set_option maxRecDepth 20000 in
theorem gL_law_X13_rowOdds : GoodIn wsL_law (wsV RL 201 RX13 yX13_rowOdds wsX13_rowOdds) := goodIn_app (goodIn_of _ (by decide +kernel)) ggL_law_X13_rowOdds
set_option maxRecDepth 20000 in
theorem ggL_law_X11_meanSum : GoodIn wsL_law wsX11_meanSum := goodIn_r _ [1263, 44, 705, 1224, 137, 138, 139, 2, 140, 141, 1264, 1265, 1227, 1266, 1267, 1232, 1233, 1234, 1235, 680, 681, 682, 683, 684, 685, 546, 686, 687, 688, 689, 1460, 1461, 1462, 1463, 1464, 1465, 1466, 1467, 1468, 1469, 1470, 1471, 1543, 1544, 1545, 1546, 1547, 1548, 1549, 1550, 1551, 1552, 1553, 1554, 1555, 1556] (by decide +kernel) (by decide +kernel)
set_option maxRecDepth 20000 in
theorem gL_law_X11_meanSum : GoodIn wsL_law (wsV RL 202 RX11 yX11_meanSum wsX11_meanSum) := goodIn_app (goodIn_of _ (by decide +kernel)) ggL_law_X11_meanSum
set_option maxRecDepth 20000 in
theorem ggL_law_X13_meanSum : GoodIn wsL_law wsX13_meanSum := goodIn_r _ [1271, 129, 722, 358, 1240, 1241, 1242, 1243, 5, 1244, 446, 447, 448, 604, 605, 606, 607, 361, 362, 363, 364, 356, 100, 1245, 1246, 1247, 694, 695, 696, 697, 488, 489, 490, 491, 698, 699, 700, 1472, 1473, 1474, 1475, 1476, 1477, 1478, 1479, 1480, 1481, 1482, 1483, 1484, 1485, 1486, 1487, 1488, 1489, 1490, 1491, 1492, 1493, 1494, 1495, 1496, 1497, 1498, 1499, 1500, 1501, 1502, 1503, 1504, 1505, 1506, 1507, 1508, 1509, 1557, 1558, 1559, 1560, 1561, 1562, 1563, 1564, 1565, 1566, 1567, 1568, 1569, 1570, 1571, 1572] (by decide +kernel) (by decide +kernel)
set_option maxRecDepth 20000 in
theorem gL_law_X13_meanSum : GoodIn wsL_law (wsV RL 205 RX13 yX13_meanSum wsX13_meanSum) := goodIn_app (goodIn_of _ (by decide +kernel)) ggL_law_X13_meanSum
set_option maxRecDepth 20000 in
theorem ggL_law_X11_grown : GoodIn wsL_law wsX11_grown := goodIn_r _ [1275, 44, 137, 138, 139, 2, 140, 141, 1276, 1277, 1278, 1279, 1280, 1281, 1227, 1282, 1283, 1284, 1285, 1286, 340, 341, 342, 343, 1460, 1461, 1462, 1463, 1464, 1465, 1466, 1467, 1468, 1469, 1470, 1471, 1543, 1544, 1545, 1546, 1547, 1548, 1549, 1550, 1551, 1552, 1553, 1554, 1555, 1556] (by decide +kernel) (by decide +kernel)
set_option maxRecDepth 20000 in
theorem gL_law_X11_grown : GoodIn wsL_law (wsV RL 206 RX11 yX11_grown wsX11_grown) := goodIn_app (goodIn_of _ (by decide +kernel)) ggL_law_X11_grown
set_option maxRecDepth 20000 in
theorem ggL_law_X13_grown : GoodIn wsL_law wsX13_grown := goodIn_r _ [1290, 129, 1291, 1292, 1241, 1242, 1243, 5, 1244, 358, 446, 447, 448, 361, 362, 363, 364, 356, 100, 1293, 1294, 1295, 1296, 1297, 1298, 1299, 488, 489, 490, 491, 1472, 1473, 1474, 1475, 1476, 1477, 1478, 1479, 1480, 1481, 1482, 1483, 1484, 1485, 1486, 1487, 1488, 1489, 1490, 1491, 1492, 1493, 1494, 1495, 1496, 1497, 1498, 1499, 1500, 1501, 1502, 1503, 1504, 1505, 1506, 1507, 1508, 1509, 1557, 1558, 1559, 1560, 1561, 1562, 1563, 1564, 1565, 1566, 1567, 1568, 1569, 1570, 1571, 1572] (by decide +kernel) (by decide +kernel)
set_option maxRecDepth 20000 in
theorem gL_law_X13_grown : GoodIn wsL_law (wsV RL 209 RX13 yX13_grown wsX13_grown) := goodIn_app (goodIn_of _ (by decide +kernel)) ggL_law_X13_grown
set_option maxRecDepth 20000 in
theorem ggL_law_X11_longestRun : GoodIn wsL_law wsX11_longestRun := goodIn_r _ [1303, 44, 137, 138, 139, 2, 140, 141, 1276, 1277, 1278, 1279, 1304, 1305, 1227, 1306, 1307, 545, 546, 547, 1283, 1284, 1285, 1286, 340, 341, 342, 343, 1460, 1461, 1462, 1463, 1464, 1465, 1466, 1467, 1468, 1469, 1470, 1471, 1543, 1544, 1545, 1546, 1547, 1548, 1549, 1550, 1551, 1552, 1553, 1554, 1555, 1556] (by decide +kernel) (by decide +kernel)
set_option maxRecDepth 20000 in
theorem gL_law_X11_longestRun : GoodIn wsL_law (wsV RL 210 RX11 yX11_longestRun wsX11_longestRun) := goodIn_app (goodIn_of _ (by decide +kernel)) ggL_law_X11_longestRun
set_option maxRecDepth 20000 in
theorem ggL_law_X13_longestRun : GoodIn wsL_law wsX13_longestRun := goodIn_r _ [1311, 129, 1291, 1292, 1241, 1242, 1243, 5, 1244, 358, 446, 447, 448, 361, 362, 363, 364, 356, 100, 1293, 1294, 1295, 1296, 1297, 1298, 1299, 488, 489, 490, 491, 1472, 1473, 1474, 1475, 1476, 1477, 1478, 1479, 1480, 1481, 1482, 1483, 1484, 1485, 1486, 1487, 1488, 1489, 1490, 1491, 1492, 1493, 1494, 1495, 1496, 1497, 1498, 1499, 1500, 1501, 1502, 1503, 1504, 1505, 1506, 1507, 1508, 1509, 1557, 1558, 1559, 1560, 1561, 1562, 1563, 1564, 1565, 1566, 1567, 1568, 1569, 1570, 1571, 1572] (by decide +kernel) (by decide +kernel)
set_option maxRecDepth 20000 in
theorem gL_law_X13_longestRun : GoodIn wsL_law (wsV RL 213 RX13 yX13_longestRun wsX13_longestRun) := goodIn_app (goodIn_of _ (by decide +kernel)) ggL_law_X13_longestRun
set_option maxRecDepth 20000 in
theorem ggL_law_X11_slip : GoodIn wsL_law wsX11_slip := goodIn_r _ [1315, 24, 512, 513, 514, 2, 515, 137, 138, 139, 140, 141, 517, 310, 311, 23, 312, 61, 307, 308, 516, 335, 336, 337, 60, 973, 974, 520, 975, 1316, 1317, 1318, 1319, 28, 1320, 1321, 1322, 27, 1323, 1324, 65, 66, 67, 1325, 1326, 1327, 1328, 293, 294, 1329, 290, 291, 292, 340, 341, 342, 343, 1460, 1461, 1462, 1463, 1464, 1465, 1466, 1467, 1468, 1469, 1470, 1471, 1522, 1523, 1524, 1525, 1526, 1527, 1528] (by decide +kernel) (by decide +kernel)
set_option maxRecDepth 20000 in
theorem gL_law_X11_slip : GoodIn wsL_law (wsV RL 214 RX11 yX11_slip wsX11_slip) := goodIn_app (goodIn_of _ (by decide +kernel)) ggL_law_X11_slip
set_option maxRecDepth 20000 in
theorem ggL_law_X13_slip : GoodIn wsL_law wsX13_slip := goodIn_r _ [1333, 129, 553, 554, 555, 5, 556, 358, 361, 362, 363, 364, 356, 100, 557, 558, 559, 560, 102, 446, 447, 448, 561, 562, 563, 564, 980, 981, 982, 1334, 1335, 1336, 1337, 1338, 1339, 1340, 1341, 359, 103, 488, 489, 490, 491, 1472, 1473, 1474, 1475, 1476, 1477, 1478, 1479, 1480, 1481, 1482, 1483, 1484, 1485, 1486, 1487, 1488, 1489, 1490, 1491, 1492, 1493, 1494, 1495, 1496, 1497, 1498, 1499, 1500, 1501, 1502, 1503, 1504, 1505, 1506, 1507, 1508, 1509, 1557, 1558, 1559, 1560, 1561, 1562, 1563, 1564, 1565, 1566, 1567, 1568, 1569, 1570, 1571, 1572] (by decide +kernel) (by decide +kernel)
set_option maxRecDepth 20000 in
theorem gL_law_X13_slip : GoodIn wsL_law (wsV RL 217 RX13 yX13_slip wsX13_slip) := goodIn_app (goodIn_of _ (by decide +kernel)) ggL_law_X13_slip
set_option maxRecDepth 20000 in
theorem ggL_law_X11_turn : GoodIn wsL_law wsX11_turn := goodIn_r _ [1345, 24, 512, 513, 514, 2, 515, 137, 138, 139, 140, 141, 517, 310, 311, 23, 312, 61, 307, 308, 516, 335, 336, 337, 60, 1346, 536, 520, 537, 1316, 1317, 1318, 1319, 28, 1320, 1321, 1322, 27, 1323, 1324, 65, 66, 67, 1325, 1326, 1327, 1328, 293, 294, 1329, 290, 291, 292, 340, 341, 342, 343, 1460, 1461, 1462, 1463, 1464, 1465, 1466, 1467, 1468, 1469, 1470, 1471, 1522, 1523, 1524, 1525, 1526, 1527, 1528] (by decide +kernel) (by decide +kernel)
set_option maxRecDepth 20000 in
theorem gL_law_X11_turn : GoodIn wsL_law (wsV RL 218 RX11 yX11_turn wsX11_turn) := goodIn_app (goodIn_of _ (by decide +kernel)) ggL_law_X11_turn
set_option maxRecDepth 20000 in
theorem ggL_law_X13_turn : GoodIn wsL_law wsX13_turn := goodIn_r _ [1350, 129, 553, 554, 555, 5, 556, 358, 557, 558, 559, 560, 102, 561, 562, 563, 564, 577, 578, 579, 580, 581, 582, 1334, 1335, 1336, 1337, 1338, 1339, 1340, 1341, 359, 103, 488, 489, 490, 491, 356, 100, 361, 362, 363, 364, 1472, 1473, 1474, 1475, 1476, 1477, 1478, 1479, 1480, 1481, 1482, 1483, 1484, 1485, 1486, 1487, 1488, 1489, 1490, 1491, 1492, 1493, 1494, 1495, 1496, 1497, 1498, 1499, 1500, 1501, 1502, 1503, 1504, 1505, 1506, 1507, 1508, 1509, 1557, 1558, 1559, 1560, 1561, 1562, 1563, 1564, 1565, 1566, 1567, 1568, 1569, 1570, 1571, 1572] (by decide +kernel) (by decide +kernel)
set_option maxRecDepth 20000 in
theorem gL_law_X13_turn : GoodIn wsL_law (wsV RL 221 RX13 yX13_turn wsX13_turn) := goodIn_app (goodIn_of _ (by decide +kernel)) ggL_law_X13_turn
set_option maxRecDepth 20000 in
theorem ggL_law_X11_twin : GoodIn wsL_law wsX11_twin := goodIn_r _ [1354, 24, 512, 513, 514, 2, 515, 137, 138, 139, 140, 141, 517, 310, 311, 23, 312, 61, 307, 308, 516, 335, 336, 337, 60, 1355, 894, 520, 895, 896, 882, 883, 1316, 1317, 1318, 1319, 28, 1320, 1321, 1322, 27, 1323, 1324, 65, 66, 67, 1325, 1326, 1327, 1328, 293, 294, 1329, 290, 291, 292, 340, 341, 342, 343, 1460, 1461, 1462, 1463, 1464, 1465, 1466, 1467, 1468, 1469, 1470, 1471, 1522, 1523, 1524, 1525, 1526, 1527, 1528] (by decide +kernel) (by decide +kernel)
set_option maxRecDepth 20000 in
theorem gL_law_X11_twin : GoodIn wsL_law (wsV RL 222 RX11 yX11_twin wsX11_twin) := goodIn_app (goodIn_of _ (by decide +kernel)) ggL_law_X11_twin
set_option maxRecDepth 20000 in
theorem ggL_law_X13_twin : GoodIn wsL_law wsX13_twin := goodIn_r _ [1359, 129, 553, 554, 555, 5, 556, 358, 557, 558, 559, 560, 102, 580, 581, 582, 561, 562, 563, 564, 1334, 1335, 1336, 1337, 1338, 1339, 1340, 1341, 359, 103, 488, 489, 490, 491, 356, 100, 361, 362, 363, 364, 1472, 1473, 1474, 1475, 1476, 1477, 1478, 1479, 1480, 1481, 1482, 1483, 1484, 1485, 1486, 1487, 1488, 1489, 1490, 1491, 1492, 1493, 1494, 1495, 1496, 1497, 1498, 1499, 1500, 1501, 1502, 1503, 1504, 1505, 1506, 1507, 1508, 1509, 1557, 1558, 1559, 1560, 1561, 1562, 1563, 1564, 1565, 1566, 1567, 1568, 1569, 1570, 1571, 1572] (by decide +kernel) (by decide +kernel)
set_option maxRecDepth 20000 in
theorem gL_law_X13_twin : GoodIn wsL_law (wsV RL 225 RX13 yX13_twin wsX13_twin) := goodIn_app (goodIn_of _ (by decide +kernel)) ggL_law_X13_twin
set_option maxRecDepth 20000 in
theorem ggL_law_X11_grow : GoodIn wsL_law wsX11_grow := goodIn_r _ [1363, 24, 512, 513, 514, 2, 515, 137, 138, 139, 140, 141, 517, 310, 311, 23, 312, 61, 307, 308, 516, 335, 336, 337, 60, 1316, 1317, 1318, 1319, 28, 1320, 1321, 1322, 27, 1323, 1324, 65, 66, 67, 1325, 1326, 1327, 1328, 293, 294, 1329, 290, 291, 292, 340, 341, 342, 343, 1460, 1461, 1462, 1463, 1464, 1465, 1466, 1467, 1468, 1469, 1470, 1471, 1522, 1523, 1524, 1525, 1526, 1527, 1528] (by decide +kernel) (by decide +kernel)
set_option maxRecDepth 20000 in
theorem gL_law_X11_grow : GoodIn wsL_law (wsV RL 226 RX11 yX11_grow wsX11_grow) := goodIn_app (goodIn_of _ (by decide +kernel)) ggL_law_X11_grow
set_option maxRecDepth 20000 in
theorem ggL_law_X13_grow : GoodIn wsL_law wsX13_grow := goodIn_r _ [1367, 129, 553, 554, 555, 5, 556, 358, 361, 362, 363, 364, 356, 100, 557, 558, 559, 560, 102, 561, 562, 563, 564, 1334, 1335, 1336, 1337, 1338, 1339, 1340, 1341, 359, 103, 488, 489, 490, 491, 1472, 1473, 1474, 1475, 1476, 1477, 1478, 1479, 1480, 1481, 1482, 1483, 1484, 1485, 1486, 1487, 1488, 1489, 1490, 1491, 1492, 1493, 1494, 1495, 1496, 1497, 1498, 1499, 1500, 1501, 1502, 1503, 1504, 1505, 1506, 1507, 1508, 1509, 1557, 1558, 1559, 1560, 1561, 1562, 1563, 1564, 1565, 1566, 1567, 1568, 1569, 1570, 1571, 1572] (by decide +kernel) (by decide +kernel)
set_option maxRecDepth 20000 in
theorem gL_law_X13_grow : GoodIn wsL_law (wsV RL 230 RX13 yX13_grow wsX13_grow) := goodIn_app (goodIn_of _ (by decide +kernel)) ggL_law_X13_grow
set_option maxRecDepth 20000 in
theorem ggL_law_X11_cut : GoodIn wsL_law wsX11_cut := goodIn_r _ [1371, 24, 512, 513, 514, 2, 515, 137, 138, 139, 140, 141, 517, 310, 311, 23, 312, 61, 307, 308, 516, 335, 336, 337, 60, 1316, 1317, 1318, 1319, 28, 1320, 1321, 1322, 27, 1323, 1324, 65, 66, 67, 1325, 1326, 1327, 1328, 293, 294, 1329, 290, 291, 292, 340, 341, 342, 343, 1460, 1461, 1462, 1463, 1464, 1465, 1466, 1467, 1468, 1469, 1470, 1471, 1522, 1523, 1524, 1525, 1526, 1527, 1528] (by decide +kernel) (by decide +kernel)
set_option maxRecDepth 20000 in
theorem gL_law_X11_cut : GoodIn wsL_law (wsV RL 231 RX11 yX11_cut wsX11_cut) := goodIn_app (goodIn_of _ (by decide +kernel)) ggL_law_X11_cut
set_option maxRecDepth 20000 in
theorem ggL_law_X13_cut : GoodIn wsL_law wsX13_cut := goodIn_r _ [1375, 129, 553, 554, 555, 5, 556, 358, 361, 362, 363, 364, 356, 100, 557, 558, 559, 560, 102, 561, 562, 563, 564, 1334, 1335, 1336, 1337, 1338, 1339, 1340, 1341, 359, 103, 488, 489, 490, 491, 1472, 1473, 1474, 1475, 1476, 1477, 1478, 1479, 1480, 1481, 1482, 1483, 1484, 1485, 1486, 1487, 1488, 1489, 1490, 1491, 1492, 1493, 1494, 1495, 1496, 1497, 1498, 1499, 1500, 1501, 1502, 1503, 1504, 1505, 1506, 1507, 1508, 1509, 1557, 1558, 1559, 1560, 1561, 1562, 1563, 1564, 1565, 1566, 1567, 1568, 1569, 1570, 1571, 1572] (by decide +kernel) (by decide +kernel)
set_option maxRecDepth 20000 in
theorem gL_law_X13_cut : GoodIn wsL_law (wsV RL 234 RX13 yX13_cut wsX13_cut) := goodIn_app (goodIn_of _ (by decide +kernel)) ggL_law_X13_cut
set_option maxRecDepth 20000 in
theorem ggL_law_X11_undo : GoodIn wsL_law wsX11_undo := goodIn_r _ [1379, 28, 141, 24, 1380, 1381, 1382, 27, 1383, 1324, 65, 66, 67, 307, 2, 308, 1384, 290, 291, 23, 292, 60, 61, 293, 294, 1460, 1461, 1462, 1463, 1464, 1465, 1466, 1467, 1468, 1469, 1470, 1471, 1525, 1526, 1527, 1528, 1522, 1523, 1524] (by decide +kernel) (by decide +kernel)
set_option maxRecDepth 20000 in
theorem gL_law_X11_undo : GoodIn wsL_law (wsV RL 235 RX11 yX11_undo wsX11_undo) := goodIn_app (goodIn_of _ (by decide +kernel)) ggL_law_X11_undo
set_option maxRecDepth 20000 in
theorem ggL_law_X13_undo : GoodIn wsL_law wsX13_undo := goodIn_r _ [1388, 129, 358, 359, 102, 103, 1389, 1390, 1391, 5, 1392, 361, 362, 363, 364, 356, 100, 1393, 1394, 1395, 1396, 488, 489, 490, 491, 1472, 1473, 1474, 1475, 1476, 1477, 1478, 1479, 1480, 1481, 1482, 1483, 1484, 1485, 1486, 1487, 1488, 1489, 1490, 1491, 1492, 1493, 1494, 1495, 1496, 1497, 1498, 1499, 1500, 1501, 1502, 1503, 1504, 1505, 1506, 1507, 1508, 1509] (by decide +kernel) (by decide +kernel)
set_option maxRecDepth 20000 in
theorem gL_law_X13_undo : GoodIn wsL_law (wsV RL 239 RX13 yX13_undo wsX13_undo) := goodIn_app (goodIn_of _ (by decide +kernel)) ggL_law_X13_undo
set_option maxRecDepth 20000 in
theorem ggL_law_X11_image : GoodIn wsL_law wsX11_image := goodIn_r _ [1400, 44, 32, 24, 137, 138, 139, 2, 140, 141, 1401, 1402, 1403, 31, 1404, 71, 1405, 72, 1406, 335, 336, 23, 337, 60, 307, 308, 293, 294, 1407, 310, 311, 312, 61, 340, 341, 342, 343, 1460, 1461, 1462, 1463, 1464, 1465, 1466, 1467, 1468, 1469, 1470, 1471, 1543, 1544, 1545, 1546, 1547, 1548, 1549, 1550, 1551, 1552, 1553, 1554, 1555, 1556, 1529, 1530, 1531, 1522, 1523, 1524] (by decide +kernel) (by decide +kernel)
set_option maxRecDepth 20000 in
theorem gL_law_X11_image : GoodIn wsL_law (wsV RL 240 RX11 yX11_image wsX11_image) := goodIn_app (goodIn_of _ (by decide +kernel)) ggL_law_X11_image
set_option maxRecDepth 20000 in
theorem ggL_law_X13_image : GoodIn wsL_law wsX13_image := goodIn_r _ [1411, 129, 358, 360, 104, 102, 361, 362, 363, 5, 364, 356, 100, 488, 489, 490, 491, 1472, 1473, 1474, 1475, 1476, 1477, 1478, 1479, 1480, 1481, 1482, 1483, 1484, 1485, 1486, 1487, 1488, 1489, 1490, 1491, 1492, 1493, 1494, 1495, 1496, 1497, 1498, 1499, 1500, 1501, 1502, 1503, 1504, 1505, 1506, 1507, 1508, 1509] (by decide +kernel) (by decide +kernel)
set_option maxRecDepth 20000 in
theorem gL_law_X13_image : GoodIn wsL_law (wsV RL 243 RX13 yX13_image wsX13_image) := goodIn_app (goodIn_of _ (by decide +kernel)) ggL_law_X13_image
set_option maxRecDepth 20000 in
theorem ggL_law_X11_back : GoodIn wsL_law wsX11_back := goodIn_r _ [1415, 32, 141, 24, 28, 1416, 1417, 1418, 31, 1419, 71, 72, 307, 2, 308, 1420, 290, 291, 23, 292, 60, 61, 293, 294, 1460, 1461, 1462, 1463, 1464, 1465, 1466, 1467, 1468, 1469, 1470, 1471, 1529, 1530, 1531, 1525, 1526, 1527, 1528, 1522, 1523, 1524] (by decide +kernel) (by decide +kernel)
set_option maxRecDepth 20000 in
theorem gL_law_X11_back : GoodIn wsL_law (wsV RL 244 RX11 yX11_back wsX11_back) := goodIn_app (goodIn_of _ (by decide +kernel)) ggL_law_X11_back
set_option maxRecDepth 20000 in
theorem ggL_law_X13_back : GoodIn wsL_law wsX13_back := goodIn_r _ [1424, 129, 358, 360, 102, 104, 359, 1389, 1390, 1391, 5, 1392, 361, 362, 363, 364, 356, 100, 1393, 1394, 1395, 1396, 488, 489, 490, 491, 1472, 1473, 1474, 1475, 1476, 1477, 1478, 1479, 1480, 1481, 1482, 1483, 1484, 1485, 1486, 1487, 1488, 1489, 1490, 1491, 1492, 1493, 1494, 1495, 1496, 1497, 1498, 1499, 1500, 1501, 1502, 1503, 1504, 1505, 1506, 1507, 1508, 1509] (by decide +kernel) (by decide +kernel)
set_option maxRecDepth 20000 in
theorem gL_law_X13_back : GoodIn wsL_law (wsV RL 248 RX13 yX13_back wsX13_back) := goodIn_app (goodIn_of _ (by decide +kernel)) ggL_law_X13_back
set_option maxRecDepth 20000 in
theorem ggL_law_L_led : GoodIn wsL_law wsL_led := goodIn_ca (goodIn_r _ [1428, 1429, 1430, 1431, 1432, 2, 1433, 1434, 1435, 24, 516, 335, 336, 23, 337, 60, 307, 308, 517, 310, 311, 312, 61, 884, 885, 520, 886, 522, 523, 524, 525, 526, 527, 528, 529, 530, 531, 1460, 1461, 1462, 1463, 1464, 1465, 1466, 1467, 1468, 1469, 1470, 1471, 1522, 1523, 1524] (by decide +kernel) (by decide +kernel)) (goodIn_sub (fun _ h => List.mem_append_right _ h) (by decide +kernel))
set_option maxRecDepth 20000 in
theorem gL_law_L_led : GoodIn wsL_law (va_wsS RL 249 yL_led wsL_led) := goodIn_app (goodIn_of _ (by decide +kernel)) ggL_law_L_led
set_option maxRecDepth 20000 in
theorem ggL_law_X13_led : GoodIn wsL_law wsX13_led := goodIn_r _ [1439, 129, 358, 561, 562, 563, 5, 564, 102, 557, 558, 559, 560, 565, 566, 567, 568, 569, 570, 571, 572, 573, 1472, 1473, 1474, 1475, 1476, 1477, 1478, 1479, 1480, 1481, 1482, 1483, 1484, 1485, 1486, 1487, 1488, 1489, 1490, 1491, 1492, 1493, 1494, 1495, 1496, 1497, 1498, 1499, 1500, 1501, 1502, 1503, 1504, 1505, 1506, 1507, 1508, 1509, 1557, 1558, 1559, 1560, 1561, 1562, 1563, 1564, 1565, 1566, 1567, 1568, 1569, 1570, 1571, 1572] (by decide +kernel) (by decide +kernel)
set_option maxRecDepth 20000 in
theorem gL_law_X13_led : GoodIn wsL_law (wsV RL 254 RX13 yX13_led wsX13_led) := goodIn_app (goodIn_of _ (by decide +kernel)) ggL_law_X13_led
set_option maxRecDepth 20000 in
theorem ggL_law_X13_thrown : GoodIn wsL_law wsX13_thrown := goodIn_r _ [1443, 129, 1472, 1473, 1474, 1475, 1476, 1477, 1478, 1479, 1480, 1481, 1482, 1483, 1484, 1485, 1486, 1487, 1488, 1489, 1490, 1491, 1492, 1493, 1494, 1495, 1496, 1497, 1498, 1499, 1500, 1501, 1502, 1503, 1504, 1505, 1506, 1507, 1508, 1509] (by decide +kernel) (by decide +kernel)
set_option maxRecDepth 20000 in
theorem gL_law_X13_thrown : GoodIn wsL_law (wsV RL 255 RX13 yX13_thrown wsX13_thrown) := goodIn_app (goodIn_of _ (by decide +kernel)) ggL_law_X13_thrown
set_option maxRecDepth 20000 in
theorem ggL_law_X11_size : GoodIn wsL_law wsX11_size := goodIn_r _ [1447, 44, 24, 28, 32, 16, 1460, 1461, 1462, 1463, 1464, 1465, 1466, 1467, 1468, 1469, 1470, 1471, 1543, 1544, 1545, 1546, 1547, 1548, 1549, 1550, 1551, 1552, 1553, 1554, 1555, 1556, 1522, 1523, 1524, 1525, 1526, 1527, 1528, 1529, 1530, 1531, 1510, 1511] (by decide +kernel) (by decide +kernel)
set_option maxRecDepth 20000 in
theorem gL_law_X11_size : GoodIn wsL_law (wsV RL 258 RX11 yX11_size wsX11_size) := goodIn_app (goodIn_of _ (by decide +kernel)) ggL_law_X11_size
set_option maxRecDepth 20000 in
theorem ggL_law_X13_size : GoodIn wsL_law wsX13_size := goodIn_r _ [1451, 129, 130, 358, 359, 360, 446, 447, 5, 448, 1472, 1473, 1474, 1475, 1476, 1477, 1478, 1479, 1480, 1481, 1482, 1483, 1484, 1485, 1486, 1487, 1488, 1489, 1490, 1491, 1492, 1493, 1494, 1495, 1496, 1497, 1498, 1499, 1500, 1501, 1502, 1503, 1504, 1505, 1506, 1507, 1508, 1509, 1557, 1558, 1559, 1560, 1561, 1562, 1563, 1564, 1565, 1566, 1567, 1568, 1569, 1570, 1571, 1572] (by decide +kernel) (by decide +kernel)
set_option maxRecDepth 20000 in
theorem gL_law_X13_size : GoodIn wsL_law (wsV RL 261 RX13 yX13_size wsX13_size) := goodIn_app (goodIn_of _ (by decide +kernel)) ggL_law_X13_size
set_option maxRecDepth 20000 in
theorem ggL_law_X11_trouble : GoodIn wsL_law wsX11_trouble := goodIn_r _ [1455, 141, 1460, 1461, 1462, 1463, 1464, 1465, 1466, 1467, 1468, 1469, 1470, 1471] (by decide +kernel) (by decide +kernel)
set_option maxRecDepth 20000 in
theorem gL_law_X11_trouble : GoodIn wsL_law (wsV RL 262 RX11 yX11_trouble wsX11_trouble) := goodIn_app (goodIn_of _ (by decide +kernel)) ggL_law_X11_trouble
set_option maxRecDepth 20000 in
theorem ggL_law_X13_trouble : GoodIn wsL_law wsX13_trouble := goodIn_r _ [1459, 129, 356, 1472, 1473, 1474, 1475, 1476, 1477, 1478, 1479, 1480, 1481, 1482, 1483, 1484, 1485, 1486, 1487, 1488, 1489, 1490, 1491, 1492, 1493, 1494, 1495, 1496, 1497, 1498, 1499, 1500, 1501, 1502, 1503, 1504, 1505, 1506, 1507, 1508, 1509] (by decide +kernel) (by decide +kernel)
set_option maxRecDepth 20000 in
theorem gL_law_X13_trouble : GoodIn wsL_law (wsV RL 265 RX13 yX13_trouble wsX13_trouble) := goodIn_app (goodIn_of _ (by decide +kernel)) ggL_law_X13_trouble

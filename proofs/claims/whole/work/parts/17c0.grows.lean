/-! THE LAW'S ROWS: what its calls want of the words -/
set_option maxRecDepth 20000 in
theorem ggL_led_X11_led : GoodIn wsL_led wsX11_ledX := goodIn_ca (goodIn_r _ [6, 7, 8, 9, 10, 11, 12, 13, 14, 15, 16, 5, 17, 18, 19, 20, 21, 22, 23, 24, 25, 26, 27, 28, 29, 30, 31, 32, 33, 34, 35, 36, 37, 38, 39, 40, 41, 42, 43, 44, 45, 46, 47, 48, 49, 50, 51] (by decide +kernel) (by decide +kernel)) (goodIn_sub (fun _ h => List.mem_cons_of_mem _ (List.mem_append_right _ h)) (by decide +kernel))
set_option maxRecDepth 20000 in
theorem gL_led_X11_led : GoodIn wsL_led (wsV RL 7 RX11 yX11_led wsX11_ledX) := goodIn_app (goodIn_of _ (by decide +kernel)) ggL_led_X11_led
set_option maxRecDepth 20000 in
theorem ggL_law_X11_init : GoodIn wsL_law wsX11_init := goodIn_r _ [9, 10, 11, 12, 13, 14, 15, 16, 17, 18, 19, 20, 21, 22, 23, 24, 25, 26, 27, 28, 29, 30, 31, 32, 33, 34, 35, 36, 37, 38, 39, 40, 41, 42, 43, 44, 45, 46, 47, 48, 49, 50, 51, 52, 53, 54, 55, 56, 57, 58, 59, 60, 61, 62, 63, 64, 65, 66, 67, 68, 69, 70, 71, 72, 73, 74, 75, 76, 77, 78, 79, 80, 81, 82, 83, 84, 85, 86, 87, 88, 89, 6, 90, 91, 92, 93, 94, 95, 1510, 1511, 1460, 1461, 1462, 1463, 1464, 1465, 1466, 1467, 1468, 1469, 1470, 1471, 1512, 1513, 1514, 1515, 1516, 1517, 1518, 1519, 1520, 1521, 1522, 1523, 1524, 1525, 1526, 1527, 1528, 1529, 1530, 1531, 1532, 1533, 1534, 1535, 1536, 1537, 1538, 1539, 1540, 1541, 1542, 1543, 1544, 1545, 1546, 1547, 1548, 1549, 1550, 1551, 1552, 1553, 1554, 1555, 1556] (by decide +kernel) (by decide +kernel)
set_option maxRecDepth 20000 in
theorem gL_law_X11_init : GoodIn wsL_law (wsX11_init) := ggL_law_X11_init
set_option maxRecDepth 20000 in
theorem ggL_law_X13_init : GoodIn wsL_law wsX13_init := goodIn_r _ [98, 99, 11, 12, 100, 49, 101, 59, 102, 103, 104, 105, 106, 107, 108, 109, 83, 110, 111, 1472, 1473, 1474, 1475, 1476, 1477, 1478, 1479, 1480, 1481, 1482, 1483, 1484, 1485, 1486, 1487, 1488, 1489, 1490, 1491, 1492, 1493, 1494, 1495, 1496, 1497, 1498, 1499, 1500, 1501, 1502, 1503, 1504, 1505, 1506, 1507, 1508, 1509] (by decide +kernel) (by decide +kernel)
set_option maxRecDepth 20000 in
theorem gL_law_X13_init : GoodIn wsL_law (wsX13_init) := ggL_law_X13_init
set_option maxRecDepth 20000 in
theorem ggL_law_X11_feed : GoodIn wsL_law wsX11_feed := goodIn_r _ [115, 16, 116, 117, 118, 15, 119, 120, 121, 122, 123, 124, 50, 1460, 1461, 1462, 1463, 1464, 1465, 1466, 1467, 1468, 1469, 1470, 1471, 1510, 1511] (by decide +kernel) (by decide +kernel)
set_option maxRecDepth 20000 in
theorem gL_law_X11_feed : GoodIn wsL_law (wsV RL 19 RX11 yX11_feed wsX11_feed) := goodIn_app (goodIn_of _ (by decide +kernel)) ggL_law_X11_feed
set_option maxRecDepth 20000 in
theorem ggL_law_X13_feed : GoodIn wsL_law wsX13_feed := goodIn_r _ [128, 129, 130, 101, 1472, 1473, 1474, 1475, 1476, 1477, 1478, 1479, 1480, 1481, 1482, 1483, 1484, 1485, 1486, 1487, 1488, 1489, 1490, 1491, 1492, 1493, 1494, 1495, 1496, 1497, 1498, 1499, 1500, 1501, 1502, 1503, 1504, 1505, 1506, 1507, 1508, 1509] (by decide +kernel) (by decide +kernel)
set_option maxRecDepth 20000 in
theorem gL_law_X13_feed : GoodIn wsL_law (wsV RL 23 RX13 yX13_feed wsX13_feed) := goodIn_app (goodIn_of _ (by decide +kernel)) ggL_law_X13_feed
set_option maxRecDepth 20000 in
theorem ggL_law_X11_lab : GoodIn wsL_law wsX11_lab := goodIn_r _ [134, 16, 20, 45, 135, 136, 44, 24, 28, 32, 137, 138, 139, 2, 140, 141, 142, 143, 144, 19, 145, 146, 147, 148, 149, 150, 151, 152, 153, 43, 154, 155, 89, 156, 157, 158, 159, 160, 161, 55, 162, 163, 164, 165, 166, 167, 15, 168, 50, 169, 170, 171, 172, 173, 174, 175, 176, 177, 178, 179, 180, 181, 182, 183, 184, 185, 186, 187, 188, 189, 190, 191, 192, 193, 194, 195, 196, 197, 198, 199, 200, 201, 202, 203, 204, 205, 206, 207, 208, 209, 210, 211, 212, 213, 214, 215, 216, 217, 218, 219, 220, 221, 222, 223, 224, 225, 226, 227, 228, 229, 230, 231, 232, 233, 234, 235, 236, 237, 238, 239, 240, 241, 242, 243, 244, 245, 246, 247, 248, 249, 250, 251, 252, 253, 254, 255, 256, 257, 258, 259, 260, 261, 262, 263, 264, 265, 266, 267, 268, 269, 270, 271, 272, 273, 274, 275, 276, 277, 278, 279, 280, 90, 281, 282, 283, 284, 285, 286, 287, 288, 289, 290, 291, 23, 292, 60, 61, 293, 294, 295, 296, 297, 298, 299, 300, 301, 302, 303, 304, 305, 306, 91, 92, 307, 308, 309, 310, 311, 312, 313, 314, 315, 316, 317, 318, 319, 320, 321, 322, 323, 324, 93, 94, 325, 326, 327, 328, 95, 329, 330, 331, 332, 333, 334, 335, 336, 337, 338, 339, 340, 341, 342, 343, 1460, 1461, 1462, 1463, 1464, 1465, 1466, 1467, 1468, 1469, 1470, 1471, 1510, 1511, 1512, 1513, 1514, 1515, 1516, 1517, 1518, 1519, 1520, 1521, 1543, 1544, 1545, 1546, 1547, 1548, 1549, 1550, 1551, 1552, 1553, 1554, 1555, 1556, 1525, 1526, 1527, 1528, 1529, 1530, 1531, 1522, 1523, 1524] (by decide +kernel) (by decide +kernel)
set_option maxRecDepth 20000 in
theorem gL_law_X11_lab : GoodIn wsL_law (wsV RL 24 RX11 yX11_lab wsX11_lab) := goodIn_app (goodIn_of _ (by decide +kernel)) ggL_law_X11_lab
set_option maxRecDepth 20000 in
theorem ggL_law_X13_lab : GoodIn wsL_law wsX13_lab := goodIn_r _ [347, 129, 130, 348, 349, 350, 351, 352, 353, 354, 355, 356, 357, 100, 358, 102, 359, 360, 361, 362, 363, 5, 364, 365, 366, 367, 11, 12, 59, 368, 369, 370, 371, 372, 373, 374, 6, 375, 376, 377, 378, 379, 380, 381, 382, 383, 384, 385, 101, 386, 387, 388, 389, 390, 391, 392, 393, 394, 395, 396, 397, 398, 399, 400, 401, 402, 403, 404, 405, 406, 407, 408, 409, 410, 411, 412, 413, 414, 415, 416, 196, 197, 198, 199, 200, 201, 202, 203, 204, 205, 206, 417, 208, 209, 210, 211, 212, 213, 214, 215, 216, 217, 218, 219, 220, 221, 222, 223, 224, 225, 226, 227, 228, 229, 230, 231, 232, 233, 234, 235, 236, 237, 238, 239, 240, 241, 242, 243, 418, 419, 420, 421, 422, 423, 424, 425, 426, 427, 428, 429, 430, 431, 432, 433, 434, 435, 436, 437, 438, 439, 440, 441, 442, 443, 444, 445, 446, 447, 448, 449, 450, 451, 452, 453, 454, 455, 456, 457, 458, 459, 460, 461, 462, 463, 464, 465, 466, 467, 468, 469, 470, 471, 472, 473, 474, 475, 476, 477, 478, 479, 480, 481, 482, 483, 484, 485, 486, 487, 488, 489, 490, 491, 1472, 1473, 1474, 1475, 1476, 1477, 1478, 1479, 1480, 1481, 1482, 1483, 1484, 1485, 1486, 1487, 1488, 1489, 1490, 1491, 1492, 1493, 1494, 1495, 1496, 1497, 1498, 1499, 1500, 1501, 1502, 1503, 1504, 1505, 1506, 1507, 1508, 1509, 1557, 1558, 1559, 1560, 1561, 1562, 1563, 1564, 1565, 1566, 1567, 1568, 1569, 1570, 1571, 1572] (by decide +kernel) (by decide +kernel)
set_option maxRecDepth 20000 in
theorem gL_law_X13_lab : GoodIn wsL_law (wsV RL 27 RX13 yX13_lab wsX13_lab) := goodIn_app (goodIn_of _ (by decide +kernel)) ggL_law_X13_lab
set_option maxRecDepth 20000 in
theorem ggL_law_X11_fault : GoodIn wsL_law wsX11_fault := goodIn_r _ [495, 135, 1460, 1461, 1462, 1463, 1464, 1465, 1466, 1467, 1468, 1469, 1470, 1471] (by decide +kernel) (by decide +kernel)
set_option maxRecDepth 20000 in
theorem gL_law_X11_fault : GoodIn wsL_law (wsV RL 28 RX11 yX11_fault wsX11_fault) := goodIn_app (goodIn_of _ (by decide +kernel)) ggL_law_X11_fault
set_option maxRecDepth 20000 in
theorem ggL_law_X13_fault : GoodIn wsL_law wsX13_fault := goodIn_r _ [499, 129, 350, 1472, 1473, 1474, 1475, 1476, 1477, 1478, 1479, 1480, 1481, 1482, 1483, 1484, 1485, 1486, 1487, 1488, 1489, 1490, 1491, 1492, 1493, 1494, 1495, 1496, 1497, 1498, 1499, 1500, 1501, 1502, 1503, 1504, 1505, 1506, 1507, 1508, 1509] (by decide +kernel) (by decide +kernel)
set_option maxRecDepth 20000 in
theorem gL_law_X13_fault : GoodIn wsL_law (wsV RL 32 RX13 yX13_fault wsX13_fault) := goodIn_app (goodIn_of _ (by decide +kernel)) ggL_law_X13_fault
set_option maxRecDepth 20000 in
theorem ggL_law_X11_where : GoodIn wsL_law wsX11_where := goodIn_r _ [503, 141, 136, 1460, 1461, 1462, 1463, 1464, 1465, 1466, 1467, 1468, 1469, 1470, 1471] (by decide +kernel) (by decide +kernel)
set_option maxRecDepth 20000 in
theorem gL_law_X11_where : GoodIn wsL_law (wsV RL 33 RX11 yX11_where wsX11_where) := goodIn_app (goodIn_of _ (by decide +kernel)) ggL_law_X11_where
set_option maxRecDepth 20000 in
theorem ggL_law_X13_where : GoodIn wsL_law wsX13_where := goodIn_r _ [507, 129, 100, 1472, 1473, 1474, 1475, 1476, 1477, 1478, 1479, 1480, 1481, 1482, 1483, 1484, 1485, 1486, 1487, 1488, 1489, 1490, 1491, 1492, 1493, 1494, 1495, 1496, 1497, 1498, 1499, 1500, 1501, 1502, 1503, 1504, 1505, 1506, 1507, 1508, 1509] (by decide +kernel) (by decide +kernel)
set_option maxRecDepth 20000 in
theorem gL_law_X13_where : GoodIn wsL_law (wsV RL 36 RX13 yX13_where wsX13_where) := goodIn_app (goodIn_of _ (by decide +kernel)) ggL_law_X13_where
set_option maxRecDepth 20000 in
theorem ggL_law_X11_stack : GoodIn wsL_law wsX11_stack := goodIn_r _ [511, 24, 512, 513, 514, 2, 515, 137, 138, 139, 140, 141, 516, 335, 336, 23, 337, 60, 307, 308, 517, 310, 311, 312, 61, 340, 341, 342, 343, 518, 519, 520, 521, 522, 523, 524, 525, 526, 527, 528, 529, 530, 531, 532, 533, 534, 535, 536, 537, 538, 539, 540, 541, 542, 543, 544, 545, 546, 547, 548, 1460, 1461, 1462, 1463, 1464, 1465, 1466, 1467, 1468, 1469, 1470, 1471, 1522, 1523, 1524] (by decide +kernel) (by decide +kernel)
set_option maxRecDepth 20000 in
theorem gL_law_X11_stack : GoodIn wsL_law (wsV RL 37 RX11 yX11_stack wsX11_stack) := goodIn_app (goodIn_of _ (by decide +kernel)) ggL_law_X11_stack
set_option maxRecDepth 20000 in
theorem ggL_law_X13_stack : GoodIn wsL_law wsX13_stack := goodIn_r _ [552, 129, 553, 554, 555, 5, 556, 358, 446, 447, 448, 361, 362, 363, 364, 356, 100, 557, 558, 559, 560, 102, 561, 562, 563, 564, 488, 489, 490, 491, 565, 566, 567, 568, 569, 570, 571, 572, 573, 574, 575, 576, 577, 578, 579, 580, 581, 582, 583, 584, 585, 586, 587, 588, 589, 590, 591, 592, 593, 594, 1472, 1473, 1474, 1475, 1476, 1477, 1478, 1479, 1480, 1481, 1482, 1483, 1484, 1485, 1486, 1487, 1488, 1489, 1490, 1491, 1492, 1493, 1494, 1495, 1496, 1497, 1498, 1499, 1500, 1501, 1502, 1503, 1504, 1505, 1506, 1507, 1508, 1509, 1557, 1558, 1559, 1560, 1561, 1562, 1563, 1564, 1565, 1566, 1567, 1568, 1569, 1570, 1571, 1572] (by decide +kernel) (by decide +kernel)
set_option maxRecDepth 20000 in
theorem gL_law_X13_stack : GoodIn wsL_law (wsV RL 41 RX13 yX13_stack wsX13_stack) := goodIn_app (goodIn_of _ (by decide +kernel)) ggL_law_X13_stack
set_option maxRecDepth 20000 in
theorem ggL_law_X11_sum : GoodIn wsL_law wsX11_sum := goodIn_r _ [598, 24, 512, 513, 514, 2, 515, 137, 138, 139, 140, 141, 516, 335, 336, 23, 337, 60, 307, 308, 517, 310, 311, 312, 61, 599, 523, 520, 524, 525, 526, 527, 528, 529, 530, 531, 340, 341, 342, 343, 1460, 1461, 1462, 1463, 1464, 1465, 1466, 1467, 1468, 1469, 1470, 1471, 1522, 1523, 1524] (by decide +kernel) (by decide +kernel)
set_option maxRecDepth 20000 in
theorem gL_law_X11_sum : GoodIn wsL_law (wsV RL 42 RX11 yX11_sum wsX11_sum) := goodIn_app (goodIn_of _ (by decide +kernel)) ggL_law_X11_sum
set_option maxRecDepth 20000 in
theorem ggL_law_X13_sum : GoodIn wsL_law wsX13_sum := goodIn_r _ [603, 129, 553, 554, 555, 5, 556, 358, 561, 562, 563, 564, 102, 557, 558, 559, 560, 568, 569, 570, 571, 572, 573, 488, 489, 490, 491, 356, 100, 604, 605, 606, 607, 361, 362, 363, 364, 1472, 1473, 1474, 1475, 1476, 1477, 1478, 1479, 1480, 1481, 1482, 1483, 1484, 1485, 1486, 1487, 1488, 1489, 1490, 1491, 1492, 1493, 1494, 1495, 1496, 1497, 1498, 1499, 1500, 1501, 1502, 1503, 1504, 1505, 1506, 1507, 1508, 1509, 1557, 1558, 1559, 1560, 1561, 1562, 1563, 1564, 1565, 1566, 1567, 1568, 1569, 1570, 1571, 1572] (by decide +kernel) (by decide +kernel)
set_option maxRecDepth 20000 in
theorem gL_law_X13_sum : GoodIn wsL_law (wsV RL 45 RX13 yX13_sum wsX13_sum) := goodIn_app (goodIn_of _ (by decide +kernel)) ggL_law_X13_sum
set_option maxRecDepth 20000 in
theorem ggL_law_X11_layer : GoodIn wsL_law wsX11_layer := goodIn_r _ [611, 24, 512, 513, 514, 2, 515, 137, 138, 139, 140, 141, 516, 335, 336, 23, 337, 60, 307, 308, 517, 310, 311, 312, 61, 612, 613, 520, 614, 615, 616, 617, 618, 619, 620, 535, 536, 537, 340, 341, 342, 343, 1460, 1461, 1462, 1463, 1464, 1465, 1466, 1467, 1468, 1469, 1470, 1471, 1522, 1523, 1524] (by decide +kernel) (by decide +kernel)
set_option maxRecDepth 20000 in
theorem gL_law_X11_layer : GoodIn wsL_law (wsV RL 46 RX11 yX11_layer wsX11_layer) := goodIn_app (goodIn_of _ (by decide +kernel)) ggL_law_X11_layer
set_option maxRecDepth 20000 in
theorem ggL_law_X13_layer : GoodIn wsL_law wsX13_layer := goodIn_r _ [624, 129, 105, 553, 554, 555, 5, 556, 358, 361, 362, 363, 364, 356, 100, 446, 447, 448, 561, 562, 563, 564, 102, 557, 558, 559, 560, 625, 626, 627, 628, 565, 566, 567, 568, 569, 570, 571, 572, 573, 589, 590, 591, 488, 489, 490, 491, 1472, 1473, 1474, 1475, 1476, 1477, 1478, 1479, 1480, 1481, 1482, 1483, 1484, 1485, 1486, 1487, 1488, 1489, 1490, 1491, 1492, 1493, 1494, 1495, 1496, 1497, 1498, 1499, 1500, 1501, 1502, 1503, 1504, 1505, 1506, 1507, 1508, 1509, 1557, 1558, 1559, 1560, 1561, 1562, 1563, 1564, 1565, 1566, 1567, 1568, 1569, 1570, 1571, 1572] (by decide +kernel) (by decide +kernel)
set_option maxRecDepth 20000 in
theorem gL_law_X13_layer : GoodIn wsL_law (wsV RL 49 RX13 yX13_layer wsX13_layer) := goodIn_app (goodIn_of _ (by decide +kernel)) ggL_law_X13_layer
set_option maxRecDepth 20000 in
theorem ggL_law_X11_hex : GoodIn wsL_law wsX11_hex := goodIn_r _ [632, 24, 512, 513, 514, 2, 515, 137, 138, 139, 140, 141, 517, 310, 311, 23, 312, 61, 307, 308, 516, 335, 336, 337, 60, 633, 634, 520, 635, 535, 536, 537, 636, 637, 638, 615, 616, 617, 340, 341, 342, 343, 1460, 1461, 1462, 1463, 1464, 1465, 1466, 1467, 1468, 1469, 1470, 1471, 1522, 1523, 1524] (by decide +kernel) (by decide +kernel)
set_option maxRecDepth 20000 in
theorem gL_law_X11_hex : GoodIn wsL_law (wsV RL 50 RX11 yX11_hex wsX11_hex) := goodIn_app (goodIn_of _ (by decide +kernel)) ggL_law_X11_hex
set_option maxRecDepth 20000 in
theorem ggL_law_X13_hex : GoodIn wsL_law wsX13_hex := goodIn_r _ [642, 129, 553, 554, 555, 5, 556, 358, 361, 362, 363, 364, 356, 100, 446, 447, 448, 561, 562, 563, 564, 102, 557, 558, 559, 560, 586, 587, 588, 589, 590, 591, 488, 489, 490, 491, 1472, 1473, 1474, 1475, 1476, 1477, 1478, 1479, 1480, 1481, 1482, 1483, 1484, 1485, 1486, 1487, 1488, 1489, 1490, 1491, 1492, 1493, 1494, 1495, 1496, 1497, 1498, 1499, 1500, 1501, 1502, 1503, 1504, 1505, 1506, 1507, 1508, 1509, 1557, 1558, 1559, 1560, 1561, 1562, 1563, 1564, 1565, 1566, 1567, 1568, 1569, 1570, 1571, 1572] (by decide +kernel) (by decide +kernel)
set_option maxRecDepth 20000 in
theorem gL_law_X13_hex : GoodIn wsL_law (wsV RL 53 RX13 yX13_hex wsX13_hex) := goodIn_app (goodIn_of _ (by decide +kernel)) ggL_law_X13_hex
set_option maxRecDepth 20000 in
theorem ggL_law_X11_run : GoodIn wsL_law wsX11_run := goodIn_r _ [646, 24, 512, 513, 514, 2, 515, 137, 138, 139, 140, 141, 516, 335, 336, 23, 337, 60, 307, 308, 517, 310, 311, 312, 61, 541, 542, 520, 543, 544, 545, 546, 547, 548, 539, 540, 535, 536, 537, 525, 526, 527, 528, 529, 530, 531, 647, 648, 649, 650, 637, 638, 615, 616, 617, 651, 652, 653, 340, 341, 342, 343, 1460, 1461, 1462, 1463, 1464, 1465, 1466, 1467, 1468, 1469, 1470, 1471, 1522, 1523, 1524] (by decide +kernel) (by decide +kernel)
set_option maxRecDepth 20000 in
theorem gL_law_X11_run : GoodIn wsL_law (wsV RL 54 RX11 yX11_run wsX11_run) := goodIn_app (goodIn_of _ (by decide +kernel)) ggL_law_X11_run
set_option maxRecDepth 20000 in
theorem ggL_law_X13_run : GoodIn wsL_law wsX13_run := goodIn_r _ [657, 129, 553, 554, 555, 5, 556, 358, 361, 362, 363, 364, 356, 100, 557, 558, 559, 560, 102, 561, 562, 563, 564, 592, 593, 594, 583, 584, 585, 586, 587, 588, 589, 590, 591, 488, 489, 490, 491, 1472, 1473, 1474, 1475, 1476, 1477, 1478, 1479, 1480, 1481, 1482, 1483, 1484, 1485, 1486, 1487, 1488, 1489, 1490, 1491, 1492, 1493, 1494, 1495, 1496, 1497, 1498, 1499, 1500, 1501, 1502, 1503, 1504, 1505, 1506, 1507, 1508, 1509, 1557, 1558, 1559, 1560, 1561, 1562, 1563, 1564, 1565, 1566, 1567, 1568, 1569, 1570, 1571, 1572] (by decide +kernel) (by decide +kernel)
set_option maxRecDepth 20000 in
theorem gL_law_X13_run : GoodIn wsL_law (wsV RL 57 RX13 yX13_run wsX13_run) := goodIn_app (goodIn_of _ (by decide +kernel)) ggL_law_X13_run
set_option maxRecDepth 20000 in
theorem ggL_law_X11_agree : GoodIn wsL_law wsX11_agree := goodIn_r _ [661, 24, 512, 513, 514, 2, 515, 137, 138, 139, 140, 141, 516, 335, 336, 23, 337, 60, 307, 308, 517, 310, 311, 312, 61, 662, 663, 520, 664, 665, 613, 614, 615, 616, 617, 618, 619, 620, 535, 536, 537, 666, 634, 635, 667, 519, 521, 522, 523, 524, 525, 526, 527, 528, 529, 530, 531, 340, 341, 342, 343, 1460, 1461, 1462, 1463, 1464, 1465, 1466, 1467, 1468, 1469, 1470, 1471, 1522, 1523, 1524] (by decide +kernel) (by decide +kernel)
set_option maxRecDepth 20000 in
theorem gL_law_X11_agree : GoodIn wsL_law (wsV RL 58 RX11 yX11_agree wsX11_agree) := goodIn_app (goodIn_of _ (by decide +kernel)) ggL_law_X11_agree
set_option maxRecDepth 20000 in
theorem ggL_law_X13_agree : GoodIn wsL_law wsX13_agree := goodIn_r _ [671, 129, 553, 554, 555, 5, 556, 358, 361, 362, 363, 364, 356, 100, 446, 447, 448, 561, 562, 563, 564, 102, 557, 558, 559, 560, 672, 673, 674, 675, 105, 625, 626, 627, 628, 565, 566, 567, 568, 569, 570, 571, 572, 573, 589, 590, 591, 488, 489, 490, 491, 1472, 1473, 1474, 1475, 1476, 1477, 1478, 1479, 1480, 1481, 1482, 1483, 1484, 1485, 1486, 1487, 1488, 1489, 1490, 1491, 1492, 1493, 1494, 1495, 1496, 1497, 1498, 1499, 1500, 1501, 1502, 1503, 1504, 1505, 1506, 1507, 1508, 1509, 1557, 1558, 1559, 1560, 1561, 1562, 1563, 1564, 1565, 1566, 1567, 1568, 1569, 1570, 1571, 1572] (by decide +kernel) (by decide +kernel)
set_option maxRecDepth 20000 in
theorem gL_law_X13_agree : GoodIn wsL_law (wsV RL 61 RX13 yX13_agree wsX13_agree) := goodIn_app (goodIn_of _ (by decide +kernel)) ggL_law_X13_agree
set_option maxRecDepth 20000 in
theorem ggL_law_X11_share : GoodIn wsL_law wsX11_share := goodIn_r _ [679, 24, 512, 513, 514, 2, 515, 137, 138, 139, 140, 141, 517, 310, 311, 23, 312, 61, 307, 308, 516, 335, 336, 337, 60, 538, 539, 520, 540, 535, 536, 537, 525, 526, 527, 528, 529, 530, 531, 680, 681, 682, 683, 684, 685, 546, 686, 687, 688, 689, 1460, 1461, 1462, 1463, 1464, 1465, 1466, 1467, 1468, 1469, 1470, 1471, 1522, 1523, 1524] (by decide +kernel) (by decide +kernel)
set_option maxRecDepth 20000 in
theorem gL_law_X11_share : GoodIn wsL_law (wsV RL 62 RX11 yX11_share wsX11_share) := goodIn_app (goodIn_of _ (by decide +kernel)) ggL_law_X11_share
set_option maxRecDepth 20000 in
theorem ggL_law_X13_share : GoodIn wsL_law wsX13_share := goodIn_r _ [693, 129, 553, 554, 555, 5, 556, 358, 361, 362, 363, 364, 356, 100, 561, 562, 563, 564, 102, 557, 558, 559, 560, 583, 584, 585, 586, 587, 588, 589, 590, 591, 694, 695, 696, 697, 488, 489, 490, 491, 698, 699, 700, 1472, 1473, 1474, 1475, 1476, 1477, 1478, 1479, 1480, 1481, 1482, 1483, 1484, 1485, 1486, 1487, 1488, 1489, 1490, 1491, 1492, 1493, 1494, 1495, 1496, 1497, 1498, 1499, 1500, 1501, 1502, 1503, 1504, 1505, 1506, 1507, 1508, 1509, 1557, 1558, 1559, 1560, 1561, 1562, 1563, 1564, 1565, 1566, 1567, 1568, 1569, 1570, 1571, 1572] (by decide +kernel) (by decide +kernel)
set_option maxRecDepth 20000 in
theorem gL_law_X13_share : GoodIn wsL_law (wsV RL 66 RX13 yX13_share wsX13_share) := goodIn_app (goodIn_of _ (by decide +kernel)) ggL_law_X13_share
set_option maxRecDepth 20000 in
theorem ggL_law_X11_energy : GoodIn wsL_law wsX11_energy := goodIn_r _ [704, 705, 44, 24, 512, 513, 514, 2, 515, 137, 138, 139, 140, 141, 516, 335, 336, 23, 337, 60, 307, 308, 517, 310, 311, 312, 61, 706, 707, 708, 43, 709, 710, 711, 712, 713, 536, 520, 537, 714, 715, 716, 717, 526, 527, 528, 529, 530, 531, 340, 341, 342, 343, 1460, 1461, 1462, 1463, 1464, 1465, 1466, 1467, 1468, 1469, 1470, 1471, 1522, 1523, 1524, 1543, 1544, 1545, 1546, 1547, 1548, 1549, 1550, 1551, 1552, 1553, 1554, 1555, 1556] (by decide +kernel) (by decide +kernel)
set_option maxRecDepth 20000 in
theorem gL_law_X11_energy : GoodIn wsL_law (wsV RL 67 RX11 yX11_energy wsX11_energy) := goodIn_app (goodIn_of _ (by decide +kernel)) ggL_law_X11_energy
set_option maxRecDepth 20000 in
theorem ggL_law_X13_energy : GoodIn wsL_law wsX13_energy := goodIn_r _ [721, 129, 722, 553, 554, 555, 5, 556, 358, 561, 562, 563, 564, 102, 557, 558, 559, 560, 723, 724, 725, 726, 589, 590, 591, 488, 489, 490, 491, 356, 100, 604, 605, 606, 607, 361, 362, 363, 364, 1472, 1473, 1474, 1475, 1476, 1477, 1478, 1479, 1480, 1481, 1482, 1483, 1484, 1485, 1486, 1487, 1488, 1489, 1490, 1491, 1492, 1493, 1494, 1495, 1496, 1497, 1498, 1499, 1500, 1501, 1502, 1503, 1504, 1505, 1506, 1507, 1508, 1509, 1557, 1558, 1559, 1560, 1561, 1562, 1563, 1564, 1565, 1566, 1567, 1568, 1569, 1570, 1571, 1572] (by decide +kernel) (by decide +kernel)
set_option maxRecDepth 20000 in
theorem gL_law_X13_energy : GoodIn wsL_law (wsV RL 70 RX13 yX13_energy wsX13_energy) := goodIn_app (goodIn_of _ (by decide +kernel)) ggL_law_X13_energy
set_option maxRecDepth 20000 in
theorem ggL_law_X11_calmest : GoodIn wsL_law wsX11_calmest := goodIn_r _ [730, 44, 24, 137, 138, 139, 2, 140, 141, 516, 335, 336, 23, 337, 60, 307, 308, 517, 310, 311, 312, 61, 706, 707, 708, 43, 709, 710, 711, 712, 713, 536, 520, 537, 714, 715, 716, 717, 526, 527, 528, 529, 530, 531, 340, 341, 342, 343, 1460, 1461, 1462, 1463, 1464, 1465, 1466, 1467, 1468, 1469, 1470, 1471, 1543, 1544, 1545, 1546, 1547, 1548, 1549, 1550, 1551, 1552, 1553, 1554, 1555, 1556, 1522, 1523, 1524] (by decide +kernel) (by decide +kernel)
set_option maxRecDepth 20000 in
theorem gL_law_X11_calmest : GoodIn wsL_law (wsV RL 71 RX11 yX11_calmest wsX11_calmest) := goodIn_app (goodIn_of _ (by decide +kernel)) ggL_law_X11_calmest
set_option maxRecDepth 20000 in
theorem ggL_law_X13_calmest : GoodIn wsL_law wsX13_calmest := goodIn_r _ [734, 129, 358, 361, 362, 363, 5, 364, 356, 100, 561, 562, 563, 564, 102, 557, 558, 559, 560, 723, 724, 725, 726, 589, 590, 591, 488, 489, 490, 491, 1472, 1473, 1474, 1475, 1476, 1477, 1478, 1479, 1480, 1481, 1482, 1483, 1484, 1485, 1486, 1487, 1488, 1489, 1490, 1491, 1492, 1493, 1494, 1495, 1496, 1497, 1498, 1499, 1500, 1501, 1502, 1503, 1504, 1505, 1506, 1507, 1508, 1509, 1557, 1558, 1559, 1560, 1561, 1562, 1563, 1564, 1565, 1566, 1567, 1568, 1569, 1570, 1571, 1572] (by decide +kernel) (by decide +kernel)
set_option maxRecDepth 20000 in
theorem gL_law_X13_calmest : GoodIn wsL_law (wsV RL 74 RX13 yX13_calmest wsX13_calmest) := goodIn_app (goodIn_of _ (by decide +kernel)) ggL_law_X13_calmest
set_option maxRecDepth 20000 in
theorem ggL_law_X11_out : GoodIn wsL_law wsX11_out := goodIn_r _ [738, 24, 36, 512, 513, 514, 2, 515, 137, 138, 139, 140, 141, 516, 335, 336, 23, 337, 60, 307, 308, 517, 310, 311, 312, 61, 518, 519, 520, 521, 522, 523, 524, 525, 526, 527, 528, 529, 530, 531, 739, 740, 741, 35, 742, 743, 744, 745, 746, 747, 748, 76, 293, 294, 749, 616, 617, 750, 619, 620, 751, 536, 537, 752, 753, 754, 755, 77, 756, 757, 758, 759, 340, 341, 342, 343, 1460, 1461, 1462, 1463, 1464, 1465, 1466, 1467, 1468, 1469, 1470, 1471, 1522, 1523, 1524, 1532, 1533] (by decide +kernel) (by decide +kernel)
set_option maxRecDepth 20000 in
theorem gL_law_X11_out : GoodIn wsL_law (wsV RL 75 RX11 yX11_out wsX11_out) := goodIn_app (goodIn_of _ (by decide +kernel)) ggL_law_X11_out

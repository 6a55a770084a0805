/-! The words of the law among the tables, 2. -/
set_option maxRecDepth 20000 in
theorem lwi_14 : ∀ w ∈ wsL_law0_r14, w ∈ lw_tbl := lwi_at wsL_law0_r14 [539, 540, 326, 327, 1416, 1417, 1418, 1419, 1209, 1210, 541, 542, 543, 544, 545, 546, 547, 181, 182, 1420, 1421, 1422, 1423, 361] (by decide +kernel)
set_option maxRecDepth 20000 in
theorem lwi_15 : ∀ w ∈ wsL_law0_r15, w ∈ lw_tbl := lwi_at wsL_law0_r15 [362, 363, 364, 328, 1424, 1425, 1426, 1427, 1211, 548, 549, 550, 551, 552, 553, 554, 301, 555, 557, 7, 558, 285, 559, 560] (by decide +kernel)
set_option maxRecDepth 20000 in
theorem lwi_16 : ∀ w ∈ wsL_law0_r16, w ∈ lw_tbl := lwi_at wsL_law0_r16 [561, 562, 563, 564, 567, 568, 569, 570, 571, 1428, 1429, 1430, 1431, 1432, 1433, 1434, 1435, 1436, 1437, 572, 573, 574, 575, 576] (by decide +kernel)
set_option maxRecDepth 20000 in
theorem lwi_17 : ∀ w ∈ wsL_law0_r17, w ∈ lw_tbl := lwi_at wsL_law0_r17 [577, 578, 583, 584, 97, 590, 579, 580, 581, 582, 585, 586, 587, 588, 600, 589, 591, 592, 615, 616, 617, 618, 593, 619] (by decide +kernel)
set_option maxRecDepth 20000 in
theorem lwi_18 : ∀ w ∈ wsL_law0_r18, w ∈ lw_tbl := lwi_at wsL_law0_r18 [620, 621, 622, 623, 162, 151, 624, 625, 626, 627, 149, 628, 629, 630, 631, 1438, 1439, 1440, 1441, 1229, 1442, 1444, 34, 1445] (by decide +kernel)
set_option maxRecDepth 20000 in
theorem lwi_19 : ∀ w ∈ wsL_law0_r19, w ∈ lw_tbl := lwi_at wsL_law0_r19 [1446, 1448, 35, 1449, 632, 633, 634, 635, 636, 637, 638, 643, 644, 98, 650, 639, 640, 641, 645, 646, 647, 648, 649, 651] (by decide +kernel)
set_option maxRecDepth 20000 in
theorem lwi_20 : ∀ w ∈ wsL_law0_r20, w ∈ lw_tbl := lwi_at wsL_law0_r20 [654, 656, 658, 660, 661, 1450, 1451, 1452, 1453, 1253, 693, 694, 695, 696, 697, 698, 699, 655, 657, 669, 700, 702, 8, 703] (by decide +kernel)
set_option maxRecDepth 20000 in
theorem lwi_21 : ∀ w ∈ wsL_law0_r21, w ∈ lw_tbl := lwi_at wsL_law0_r21 [643, 1454, 1455, 1456, 1457, 1458, 1460, 36, 1461, 705, 706, 707, 708, 709, 710, 711, 597, 659, 599, 653, 601, 712, 714, 9] (by decide +kernel)
set_option maxRecDepth 20000 in
theorem lwi_22 : ∀ w ∈ wsL_law0_r22, w ∈ lw_tbl := lwi_at wsL_law0_r22 [715, 583, 717, 718, 719, 720, 721, 722, 723, 724, 296, 725, 726, 727, 728, 729, 730, 731, 732, 733, 734, 735, 736, 742] (by decide +kernel)
set_option maxRecDepth 20000 in
theorem lwi_23 : ∀ w ∈ wsL_law0_r23, w ∈ lw_tbl := lwi_at wsL_law0_r23 [737, 738, 739, 740, 741, 743, 744, 745, 746, 747, 748, 749, 750, 652, 598, 751, 753, 10, 754, 756, 757, 758, 759, 662] (by decide +kernel)
set_option maxRecDepth 20000 in
theorem lwi_24 : ∀ w ∈ wsL_law0_r24, w ∈ lw_tbl := lwi_at wsL_law0_r24 [1462, 1463, 1464, 1465, 1208, 1466, 1468, 37, 1469, 1470, 1472, 38, 1473, 1474, 1476, 39, 1477, 1478, 1480, 40, 1481, 1482, 1484, 41] (by decide +kernel)
set_option maxRecDepth 20000 in
theorem lwi_25 : ∀ w ∈ wsL_law0_r25, w ∈ lw_tbl := lwi_at wsL_law0_r25 [1485, 1486, 1488, 42, 1489, 1490, 1491, 1492, 1493, 1495, 43, 1496, 1497, 1499, 44, 1500, 760, 761, 762, 763, 764, 765, 766, 325] (by decide +kernel)
set_option maxRecDepth 20000 in
theorem lwi_26 : ∀ w ∈ wsL_law0_r26, w ∈ lw_tbl := lwi_at wsL_law0_r26 [768, 769, 770, 771, 772, 773, 774, 775, 668, 664, 666, 1501, 1502, 1503, 1504, 1505, 1506, 1507, 776, 777, 778, 779, 780, 781] (by decide +kernel)

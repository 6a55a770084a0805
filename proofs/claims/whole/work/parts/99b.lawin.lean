theorem wsL_law_in0 : ∀ w ∈ wsL_law0, w ∈ lw_tbl := fun w h => (goodIn_p wsL_law0 [105, 108, 113, 116, 119, 139, 145, 174, 228, 232, 236, 240, 246, 243, 250, 253, 273, 279, 289, 1205, 374, 378, 382, 454, 457, 460, 464, 467, 487, 491, 495, 515, 1393, 1396, 1399, 1403, 1407, 1389, 522, 526, 1411, 533, 1415, 540, 1419, 547, 1423, 364, 1427, 554, 558, 561, 564, 570, 1431, 1434, 1437, 578, 582, 587, 618, 623, 627, 631, 1441, 1445, 1449, 638, 641, 647, 1453, 699, 703, 1457, 1461, 711, 715, 720, 724, 728, 732, 736, 740, 746, 750, 754, 759, 1465, 1469, 1473, 1477, 1481, 1485, 1489, 1492, 1496, 1500, 766, 771, 775, 1504, 1507, 782, 1511, 790, 794, 860, 1515, 867, 871, 876, 1519, 1523, 1527, 883, 1531, 890, 895, 899, 903, 908, 912, 916, 1535, 1539, 1543, 1547, 924, 1551, 1555, 1559, 1563, 932, 936, 940, 1567, 947, 1571, 954, 958, 962, 968, 973, 977, 981, 986, 990, 994, 998, 1002, 1006, 1010, 1014, 1018, 1022, 1027, 1032, 1036, 1040, 1044, 1049, 1053, 1057, 1061, 1065, 1575, 1579, 1582, 1586, 1590, 1594, 1598, 1602, 1606, 1610, 1614, 1618, 1622, 1626, 1630, 1634, 1638, 1642, 1646, 1650, 1654, 1072, 1658, 1079, 1662, 1086, 1666, 1093, 1670, 1100, 1674, 1678, 1108, 1682, 1116, 1120, 1686, 1690, 1128, 1132, 1136, 1139, 1143, 1147, 1694, 1154, 1158, 1161, 1698, 1702, 1173, 1176, 1706, 1183, 1711, 1191, 1195, 1199, 1715] (by decide +kernel) (by decide +kernel) w h).1
theorem wsL_law_x0 : ∀ w ∈ (vx_atS RX7 351 "java/lang/IndexOutOfBoundsException" ["java/lang/RuntimeException", "java/lang/Exception"]).filter goodWord, w ∈ lw_tbl := by decide +kernel
theorem wsL_law_x1 : ∀ w ∈ (vx_atS RX7 412 "java/lang/IllegalArgumentException" ["java/lang/RuntimeException", "java/lang/Exception"]).filter goodWord, w ∈ lw_tbl := by decide +kernel
theorem wsL_law_x2 : ∀ w ∈ (vx_atS RX7 175 "java/lang/IllegalStateException" ["java/lang/RuntimeException", "java/lang/Exception"]).filter goodWord, w ∈ lw_tbl := by decide +kernel
theorem wsL_law_in : ∀ w ∈ wsL_law, w ∈ lw_tbl := fun w h => (List.mem_append.mp h).elim (fun h => (List.mem_append.mp h).elim (fun h => (List.mem_append.mp h).elim (fun h => wsL_law_in0 w h) (fun h => wsL_law_x0 w h)) (fun h => wsL_law_x1 w h)) (fun h => wsL_law_x2 w h)
theorem inX0 : ∀ w ∈ wsX00, w ∈ lw_tbl := fun w h => wsL_law_in w (inlX0 w h)
theorem inX1 : ∀ w ∈ wsX10, w ∈ lw_tbl := fun w h => wsL_law_in w (inlX1 w h)
theorem inX2 : ∀ w ∈ wsX20, w ∈ lw_tbl := fun w h => wsL_law_in w (inlX2 w h)
theorem inX3 : ∀ w ∈ wsX30, w ∈ lw_tbl := fun w h => wsL_law_in w (inlX3 w h)
theorem inX4 : ∀ w ∈ wsX40, w ∈ lw_tbl := fun w h => wsL_law_in w (inlX4 w h)
theorem inX5 : ∀ w ∈ wsX50, w ∈ lw_tbl := fun w h => wsL_law_in w (inlX5 w h)
theorem inX6 : ∀ w ∈ wsX60, w ∈ lw_tbl := fun w h => wsL_law_in w (inlX6 w h)
theorem inX7 : ∀ w ∈ wsX70, w ∈ lw_tbl := fun w h => wsL_law_in w (inlX7 w h)
theorem inX8 : ∀ w ∈ wsX80, w ∈ lw_tbl := fun w h => wsL_law_in w (inlX8 w h)
theorem inJx4a65c : ∀ w ∈ wsJx4a65c0, w ∈ lw_tbl := fun w h => wsL_law_in w (inlJx4a65c w h)

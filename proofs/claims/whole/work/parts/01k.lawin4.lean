/-! The words of the law among the tables, 4. -/
set_option maxRecDepth 20000 in
theorem lwi_40 : ∀ w ∈ wsL_law0_r40, w ∈ lw_tbl := lwi_at wsL_law0_r40 [195, 197, 192, 1050, 1051, 1052, 1053, 1054, 1056, 26, 1057, 1058, 1059, 1060, 1061, 805, 1062, 1063, 1064, 1065, 1572, 1573, 1574, 1575] (by decide +kernel)
set_option maxRecDepth 20000 in
theorem lwi_41 : ∀ w ∈ wsL_law0_r41, w ∈ lw_tbl := lwi_at wsL_law0_r41 [1576, 1578, 53, 1579, 1580, 1581, 1582, 1583, 1585, 54, 1586, 1587, 1589, 55, 1590, 1591, 1593, 56, 1594, 1595, 1597, 57, 1598, 1599] (by decide +kernel)
set_option maxRecDepth 20000 in
theorem lwi_42 : ∀ w ∈ wsL_law0_r42, w ∈ lw_tbl := lwi_at wsL_law0_r42 [1601, 58, 1602, 1603, 1605, 59, 1606, 1607, 1609, 60, 1610, 1611, 1613, 61, 1614, 1615, 1617, 62, 1618, 1619, 1621, 63, 1622, 1623] (by decide +kernel)
set_option maxRecDepth 20000 in
theorem lwi_43 : ∀ w ∈ wsL_law0_r43, w ∈ lw_tbl := lwi_at wsL_law0_r43 [1625, 64, 1626, 1627, 1629, 65, 1630, 1631, 1633, 66, 1634, 1635, 1637, 67, 1638, 1639, 1641, 68, 1642, 1643, 1645, 69, 1646, 1647] (by decide +kernel)
set_option maxRecDepth 20000 in
theorem lwi_44 : ∀ w ∈ wsL_law0_r44, w ∈ lw_tbl := lwi_at wsL_law0_r44 [1649, 70, 1650, 1651, 1653, 71, 1654, 1066, 1067, 1068, 1069, 1070, 1071, 1072, 1655, 1656, 1657, 1658, 1073, 1074, 1075, 1076, 1077, 1078] (by decide +kernel)
set_option maxRecDepth 20000 in
theorem lwi_45 : ∀ w ∈ wsL_law0_r45, w ∈ lw_tbl := lwi_at wsL_law0_r45 [1079, 1659, 1660, 1661, 1662, 1080, 1081, 1082, 1083, 1084, 1085, 1086, 1663, 1664, 1665, 1666, 1087, 1088, 1089, 1090, 1091, 1092, 1093, 1667] (by decide +kernel)
set_option maxRecDepth 20000 in
theorem lwi_46 : ∀ w ∈ wsL_law0_r46, w ∈ lw_tbl := lwi_at wsL_law0_r46 [1668, 1669, 1670, 1094, 1095, 1096, 1097, 1098, 1099, 1100, 823, 1671, 1672, 1673, 1674, 1675, 1677, 72, 1678, 1102, 1103, 1104, 1105, 1106] (by decide +kernel)
set_option maxRecDepth 20000 in
theorem lwi_47 : ∀ w ∈ wsL_law0_r47, w ∈ lw_tbl := lwi_at wsL_law0_r47 [1107, 1108, 825, 1679, 1680, 1681, 1682, 1110, 1111, 1112, 1113, 1114, 1115, 1116, 299, 1117, 1119, 27, 1120, 294, 297, 1683, 1684, 1685] (by decide +kernel)
set_option maxRecDepth 20000 in
theorem lwi_48 : ∀ w ∈ wsL_law0_r48, w ∈ lw_tbl := lwi_at wsL_law0_r48 [1686, 1687, 1689, 73, 1690, 1122, 1123, 1124, 1125, 1126, 1127, 1128, 1129, 1130, 1131, 1132, 1133, 1135, 28, 1136, 150, 148, 1137, 1138] (by decide +kernel)
set_option maxRecDepth 20000 in
theorem lwi_49 : ∀ w ∈ wsL_law0_r49, w ∈ lw_tbl := lwi_at wsL_law0_r49 [1139, 1140, 1141, 1142, 1143, 1144, 1145, 1146, 1147, 1691, 1692, 1693, 1694, 1148, 1149, 1150, 1151, 1152, 1153, 1154, 1155, 1157, 29, 1158] (by decide +kernel)
set_option maxRecDepth 20000 in
theorem lwi_50 : ∀ w ∈ wsL_law0_r50, w ∈ lw_tbl := lwi_at wsL_law0_r50 [1159, 1160, 100, 1161, 1162, 1163, 1164, 1165, 1166, 1695, 1696, 1697, 1698, 1699, 1701, 74, 1702, 1167, 1168, 1169, 1170, 1171, 1172, 1173] (by decide +kernel)
set_option maxRecDepth 20000 in
theorem lwi_51 : ∀ w ∈ wsL_law0_r51, w ∈ lw_tbl := lwi_at wsL_law0_r51 [1174, 1175, 1176, 1703, 1704, 1705, 1706, 1707, 1177, 1178, 1179, 1180, 1181, 1182, 1183, 663, 665, 667, 1708, 1709, 1710, 1711, 1185, 1186] (by decide +kernel)
set_option maxRecDepth 20000 in
theorem lwi_52 : ∀ w ∈ wsL_law0_r52, w ∈ lw_tbl := lwi_at wsL_law0_r52 [1187, 1188, 1189, 1190, 1191, 1192, 1194, 30, 1195, 1196, 1198, 31, 1199, 1712, 1713, 1714, 1715] (by decide +kernel)

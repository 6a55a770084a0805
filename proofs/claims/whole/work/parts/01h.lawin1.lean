/-! The words of the law among the tables, 1. -/
theorem lwi_at {big : List Cond} (ws : List Cond) (ps : List Nat) (hp : ws = ps.filterMap (fun i => big[i]?)) : ∀ w ∈ ws, w ∈ big := fun w hw => by
  rw [hp] at hw
  obtain ⟨i, -, hi⟩ := List.mem_filterMap.mp hw
  exact List.mem_of_getElem? hi
set_option maxRecDepth 20000 in
theorem lwi_1 : ∀ w ∈ wsL_law0_r1, w ∈ lw_tbl := lwi_at wsL_law0_r1 [101, 102, 76, 1201, 1202, 88, 1716, 103, 104, 105, 106, 107, 108, 109, 110, 79, 318, 319, 320, 321, 322, 159, 323, 135] (by decide +kernel)
set_option maxRecDepth 20000 in
theorem lwi_2 : ∀ w ∈ wsL_law0_r2, w ∈ lw_tbl := lwi_at wsL_law0_r2 [136, 80, 324, 170, 171, 82, 285, 286, 87, 111, 112, 113, 121, 123, 114, 115, 78, 116, 125, 117, 118, 77, 119, 120] (by decide +kernel)
set_option maxRecDepth 20000 in
theorem lwi_3 : ∀ w ∈ wsL_law0_r3, w ∈ lw_tbl := lwi_at wsL_law0_r3 [138, 139, 140, 141, 142, 81, 160, 161, 144, 145, 146, 147, 172, 173, 174, 175, 178, 185, 186, 176, 225, 226, 227, 228] (by decide +kernel)
set_option maxRecDepth 20000 in
theorem lwi_4 : ∀ w ∈ wsL_law0_r4, w ∈ lw_tbl := lwi_at wsL_law0_r4 [126, 127, 124, 229, 231, 0, 232, 233, 235, 1, 236, 237, 239, 2, 240, 283, 245, 84, 246, 284, 241, 242, 83, 243] (by decide +kernel)
set_option maxRecDepth 20000 in
theorem lwi_5 : ∀ w ∈ wsL_law0_r5, w ∈ lw_tbl := lwi_at wsL_law0_r5 [244, 247, 248, 249, 250, 251, 252, 85, 253, 254, 1734, 255, 270, 271, 272, 273, 274, 276, 277, 278, 279, 280, 282, 281] (by decide +kernel)
set_option maxRecDepth 20000 in
theorem lwi_6 : ∀ w ∈ wsL_law0_r6, w ∈ lw_tbl := lwi_at wsL_law0_r6 [86, 287, 288, 289, 290, 302, 291, 304, 293, 295, 298, 300, 292, 1203, 1204, 1205, 1206, 1385, 1212, 1213, 1214, 1215, 1216, 1217] (by decide +kernel)
set_option maxRecDepth 20000 in
theorem lwi_7 : ∀ w ∈ wsL_law0_r7, w ∈ lw_tbl := lwi_at wsL_law0_r7 [1218, 1219, 1220, 1221, 1222, 1223, 1224, 1225, 1226, 1227, 1228, 1230, 1231, 1232, 1233, 1234, 1235, 1237, 1238, 1239, 1240, 1241, 1242, 1243] (by decide +kernel)
set_option maxRecDepth 20000 in
theorem lwi_8 : ∀ w ∈ wsL_law0_r8, w ∈ lw_tbl := lwi_at wsL_law0_r8 [1244, 1245, 1246, 1247, 1248, 1249, 1250, 1251, 1252, 1254, 1255, 1256, 1257, 1258, 1259, 1260, 1261, 1262, 365, 366, 75, 367, 368, 369] (by decide +kernel)
set_option maxRecDepth 20000 in
theorem lwi_9 : ∀ w ∈ wsL_law0_r9, w ∈ lw_tbl := lwi_at wsL_law0_r9 [370, 371, 372, 373, 374, 375, 377, 3, 378, 383, 92, 170, 379, 380, 381, 382, 451, 452, 453, 454, 455, 456, 93, 457] (by decide +kernel)
set_option maxRecDepth 20000 in
theorem lwi_10 : ∀ w ∈ wsL_law0_r10, w ∈ lw_tbl := lwi_at wsL_law0_r10 [458, 459, 94, 460, 461, 462, 463, 464, 465, 466, 467, 468, 95, 484, 486, 5, 487, 488, 490, 6, 491, 492, 812, 177] (by decide +kernel)
set_option maxRecDepth 20000 in
theorem lwi_11 : ∀ w ∈ wsL_law0_r11, w ∈ lw_tbl := lwi_at wsL_law0_r11 [493, 494, 495, 496, 96, 512, 513, 514, 515, 183, 188, 1390, 1391, 1392, 1393, 1394, 1395, 1396, 1397, 1398, 1399, 1400, 1402, 32] (by decide +kernel)
set_option maxRecDepth 20000 in
theorem lwi_12 : ∀ w ∈ wsL_law0_r12, w ∈ lw_tbl := lwi_at wsL_law0_r12 [1403, 1236, 1404, 1406, 33, 1407, 1207, 1386, 1387, 1388, 1389, 516, 517, 518, 519, 520, 521, 522, 523, 524, 525, 526, 190, 191] (by decide +kernel)
set_option maxRecDepth 20000 in
theorem lwi_13 : ∀ w ∈ wsL_law0_r13, w ∈ lw_tbl := lwi_at wsL_law0_r13 [193, 194, 196, 1408, 1409, 1410, 1411, 527, 528, 529, 530, 531, 532, 533, 179, 1412, 1413, 1414, 1415, 534, 535, 536, 537, 538] (by decide +kernel)

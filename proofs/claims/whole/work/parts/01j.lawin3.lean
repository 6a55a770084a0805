/-! The words of the law among the tables, 3. -/
set_option maxRecDepth 20000 in
theorem lwi_27 : ∀ w ∈ wsL_law0_r27, w ∈ lw_tbl := lwi_at wsL_law0_r27 [782, 594, 330, 783, 1508, 1509, 1510, 1511, 1264, 784, 785, 786, 787, 788, 789, 790, 492, 791, 99, 799, 792, 793, 794, 795] (by decide +kernel)
set_option maxRecDepth 20000 in
theorem lwi_28 : ∀ w ∈ wsL_law0_r28, w ∈ lw_tbl := lwi_at wsL_law0_r28 [809, 811, 817, 824, 798, 800, 802, 796, 803, 797, 857, 858, 859, 860, 815, 819, 1512, 1513, 1514, 1515, 861, 862, 863, 864] (by decide +kernel)
set_option maxRecDepth 20000 in
theorem lwi_29 : ∀ w ∈ wsL_law0_r29, w ∈ lw_tbl := lwi_at wsL_law0_r29 [865, 866, 867, 806, 331, 868, 870, 11, 871, 873, 874, 875, 876, 1516, 1517, 1518, 1519, 1265, 1520, 1522, 45, 1523, 1524, 1526] (by decide +kernel)
set_option maxRecDepth 20000 in
theorem lwi_30 : ∀ w ∈ wsL_law0_r30, w ∈ lw_tbl := lwi_at wsL_law0_r30 [46, 1527, 877, 878, 879, 880, 881, 882, 883, 804, 303, 1528, 1529, 1530, 1531, 884, 885, 886, 887, 888, 889, 890, 810, 808] (by decide +kernel)
set_option maxRecDepth 20000 in
theorem lwi_31 : ∀ w ∈ wsL_law0_r31, w ∈ lw_tbl := lwi_at wsL_law0_r31 [329, 891, 892, 893, 894, 895, 896, 898, 12, 899, 900, 901, 902, 903, 595, 904, 905, 906, 907, 908, 909, 910, 911, 912] (by decide +kernel)
set_option maxRecDepth 20000 in
theorem lwi_32 : ∀ w ∈ wsL_law0_r32, w ∈ lw_tbl := lwi_at wsL_law0_r32 [913, 915, 13, 916, 917, 1532, 1533, 1534, 1535, 1263, 1536, 1538, 47, 1539, 1540, 1542, 48, 1543, 1544, 1546, 49, 1547, 918, 919] (by decide +kernel)
set_option maxRecDepth 20000 in
theorem lwi_33 : ∀ w ∈ wsL_law0_r33, w ∈ lw_tbl := lwi_at wsL_law0_r33 [920, 921, 922, 923, 924, 925, 1548, 1549, 1550, 1551, 1552, 1554, 50, 1555, 1556, 1558, 51, 1559, 1560, 1562, 52, 1563, 926, 927] (by decide +kernel)
set_option maxRecDepth 20000 in
theorem lwi_34 : ∀ w ∈ wsL_law0_r34, w ∈ lw_tbl := lwi_at wsL_law0_r34 [928, 929, 930, 931, 932, 933, 934, 935, 936, 821, 937, 938, 939, 940, 1564, 1565, 1566, 1567, 941, 942, 943, 944, 945, 946] (by decide +kernel)
set_option maxRecDepth 20000 in
theorem lwi_35 : ∀ w ∈ wsL_law0_r35, w ∈ lw_tbl := lwi_at wsL_law0_r35 [947, 818, 820, 1568, 1569, 1570, 1571, 948, 949, 950, 951, 952, 953, 954, 955, 957, 14, 958, 959, 961, 15, 962, 963, 964] (by decide +kernel)
set_option maxRecDepth 20000 in
theorem lwi_36 : ∀ w ∈ wsL_law0_r36, w ∈ lw_tbl := lwi_at wsL_law0_r36 [965, 966, 967, 968, 807, 969, 822, 970, 972, 16, 973, 184, 816, 974, 976, 17, 977, 978, 979, 980, 981, 596, 982, 983] (by decide +kernel)
set_option maxRecDepth 20000 in
theorem lwi_37 : ∀ w ∈ wsL_law0_r37, w ∈ lw_tbl := lwi_at wsL_law0_r37 [984, 985, 986, 987, 989, 18, 990, 991, 992, 993, 994, 813, 995, 997, 19, 998, 999, 1001, 20, 1002, 1003, 1004, 1005, 1006] (by decide +kernel)
set_option maxRecDepth 20000 in
theorem lwi_38 : ∀ w ∈ wsL_law0_r38, w ∈ lw_tbl := lwi_at wsL_law0_r38 [1007, 1009, 21, 1010, 1011, 1013, 22, 1014, 189, 801, 1015, 1017, 23, 1018, 1019, 1020, 1021, 1022, 1023, 1024, 1025, 1026, 1027, 1028] (by decide +kernel)
set_option maxRecDepth 20000 in
theorem lwi_39 : ∀ w ∈ wsL_law0_r39, w ∈ lw_tbl := lwi_at wsL_law0_r39 [1029, 1030, 1031, 1032, 1033, 1034, 1035, 1036, 1037, 1038, 1039, 1040, 180, 1041, 1043, 24, 1044, 814, 187, 1045, 1046, 1048, 25, 1049] (by decide +kernel)

/-! the codes -/
set_option maxRecDepth 1000000 in
set_option maxHeartbeats 100000000 in
theorem eg_p6_0 : eg_M0.map eg_yw = (([760, 991, 1040, 1071, 1081, 1092, 1099, 1106, 1117, 1135, 1142, 1176, 1187, 1222, 1229, 1280] : List Nat).filterMap (fun i => lw_tbl[i]?)) := rfl
set_option maxRecDepth 1000000 in
set_option maxHeartbeats 100000000 in
theorem eg_p6_1 : eg_M1.map eg_yw = (([1296, 1307, 1331, 1353, 1360, 1374, 1381, 1388, 1396, 1411, 1423, 1442, 1449, 1468, 1050, 206] : List Nat).filterMap (fun i => lw_tbl[i]?)) := rfl
set_option maxRecDepth 1000000 in
set_option maxHeartbeats 100000000 in
theorem eg_p6_2 : eg_M2.map eg_yw = (([565, 569, 573, 591, 740, 751, 1114, 1128, 1132, 1151, 1154, 1184, 1199, 1204, 1212, 1219] : List Nat).filterMap (fun i => lw_tbl[i]?)) := rfl
set_option maxRecDepth 1000000 in
set_option maxHeartbeats 100000000 in
theorem eg_p6_3 : eg_M3.map eg_yw = (([1327, 1408, 1420, 335, 698, 709, 716, 720, 724, 461, 1343, 1348, 694, 868, 295, 518] : List Nat).filterMap (fun i => lw_tbl[i]?)) := rfl
set_option maxRecDepth 1000000 in
set_option maxHeartbeats 100000000 in
theorem eg_p6_4 : eg_M4.map eg_yw = (([522, 530, 770, 774, 778, 781, 784, 788, 792, 800, 854, 860, 864, 900, 906, 912] : List Nat).filterMap (fun i => lw_tbl[i]?)) := rfl
set_option maxRecDepth 1000000 in
set_option maxHeartbeats 100000000 in
theorem eg_p6_5 : eg_M5.map eg_yw = (([916, 920, 934, 940, 999, 1025, 688, 732, 980, 391, 1244, 1248, 1252, 1258, 1263, 1267] : List Nat).filterMap (fun i => lw_tbl[i]?)) := rfl
set_option maxRecDepth 1000000 in
set_option maxHeartbeats 100000000 in
theorem eg_p6_6 : eg_M6.map eg_yw = (([1271, 1277, 1304, 1457, 1461, 193, 550, 561, 587, 603, 736, 747, 756, 1371, 1404, 1439] : List Nat).filterMap (fun i => lw_tbl[i]?)) := rfl
set_option maxRecDepth 1000000 in
set_option maxHeartbeats 100000000 in
theorem eg_p6_7 : eg_M7.map eg_yw = (([1004, 1035, 1208, 185, 514, 526, 534, 538, 542, 546, 553, 557, 583, 595, 599, 607] : List Nat).filterMap (fun i => lw_tbl[i]?)) := rfl
set_option maxRecDepth 1000000 in
set_option maxHeartbeats 100000000 in
theorem eg_p6_8 : eg_M8.map eg_yw = (([611, 679, 683, 766, 995, 1045, 1075, 1078, 1085, 1089, 1096, 1103, 1110, 1121, 1124, 1139] : List Nat).filterMap (fun i => lw_tbl[i]?)) := rfl
set_option maxRecDepth 1000000 in
set_option maxHeartbeats 100000000 in
theorem eg_p6_9 : eg_M9.map eg_yw = (([1147, 1180, 1191, 1195, 1226, 1233, 1236, 1240, 1284, 1288, 1300, 1311, 1315, 1335, 1339, 1357] : List Nat).filterMap (fun i => lw_tbl[i]?)) := rfl
set_option maxRecDepth 1000000 in
set_option maxHeartbeats 100000000 in
theorem eg_p6_10 : eg_M10.map eg_yw = (([1364, 1367, 1378, 1385, 1392, 1400, 1415, 1427, 1431, 1435, 1446, 1453, 1465, 1472, 1481, 1598] : List Nat).filterMap (fun i => lw_tbl[i]?)) := rfl
set_option maxRecDepth 1000000 in
set_option maxHeartbeats 100000000 in
theorem eg_p6_11 : eg_M11.map eg_yw = (([1602, 1606, 1610, 1614, 1618, 1622, 1626, 1630, 1634, 1638, 1641, 1645, 1649, 1652, 1657, 1664] : List Nat).filterMap (fun i => lw_tbl[i]?)) := rfl
set_option maxRecDepth 1000000 in
set_option maxHeartbeats 100000000 in
theorem eg_p6_12 : eg_M12.map eg_yw = (([1669, 1673, 1677, 1681, 1685, 1690, 1694, 1704, 1708, 1712, 1716, 1734, 1738, 1742, 1746, 1750] : List Nat).filterMap (fun i => lw_tbl[i]?)) := rfl
set_option maxRecDepth 1000000 in
set_option maxHeartbeats 100000000 in
theorem eg_p6_13 : eg_M13.map eg_yw = (([1754, 1757, 1761, 1765, 1768, 1773, 1776, 1781, 1785, 1790, 1794, 1798, 1802, 1806, 1810, 1814] : List Nat).filterMap (fun i => lw_tbl[i]?)) := rfl
set_option maxRecDepth 1000000 in
set_option maxHeartbeats 100000000 in
theorem eg_p6_14 : eg_M14.map eg_yw = (([1818, 1822, 1825, 1829, 1833, 1837, 1841, 1845, 1849, 1853, 1857, 1861, 1865, 1869, 1873, 1876] : List Nat).filterMap (fun i => lw_tbl[i]?)) := rfl
set_option maxRecDepth 1000000 in
set_option maxHeartbeats 100000000 in
theorem eg_p6_15 : eg_M15.map eg_yw = (([1880, 1884, 1887, 1899, 1903, 1907, 1911, 1915, 1920, 1924, 1928, 1931, 1939, 1943, 1947, 1951] : List Nat).filterMap (fun i => lw_tbl[i]?)) := rfl
set_option maxRecDepth 1000000 in
set_option maxHeartbeats 100000000 in
theorem eg_p6_16 : eg_M16.map eg_yw = (([1955, 1959, 1965, 1969, 1973, 1977, 1983, 1987, 1991, 1995, 1999, 2003, 2008, 2012, 2016, 2020] : List Nat).filterMap (fun i => lw_tbl[i]?)) := rfl
set_option maxRecDepth 1000000 in
set_option maxHeartbeats 100000000 in
theorem eg_p6_17 : eg_M17.map eg_yw = (([2024, 2027, 2031, 2035, 2039, 2043, 2047, 2051, 2055, 2059, 2063, 2067, 2071, 2075, 2079, 2083] : List Nat).filterMap (fun i => lw_tbl[i]?)) := rfl
set_option maxRecDepth 1000000 in
set_option maxHeartbeats 100000000 in
theorem eg_p6_18 : eg_M18.map eg_yw = (([2087, 2091, 2094, 2098, 2102, 2106, 804, 808, 814, 818, 824, 821, 832, 835, 838, 842] : List Nat).filterMap (fun i => lw_tbl[i]?)) := rfl
set_option maxRecDepth 1000000 in
set_option maxHeartbeats 100000000 in
theorem eg_p6_19 : eg_M19.map eg_yw = (([706, 576, 1890, 1894, 1935, 743, 1158, 1215, 1320, 1323, 829, 1476] : List Nat).filterMap (fun i => lw_tbl[i]?)) := rfl
theorem eg_p6 : ∀ w ∈ eg_W6, w ∈ lw_tbl := by
  have h : ∀ l ∈ eg_MM, ∀ w ∈ l.map eg_yw, w ∈ lw_tbl := List.forall_mem_cons.mpr ⟨eg_pin eg_p6_0, List.forall_mem_cons.mpr ⟨eg_pin eg_p6_1, List.forall_mem_cons.mpr ⟨eg_pin eg_p6_2, List.forall_mem_cons.mpr ⟨eg_pin eg_p6_3, List.forall_mem_cons.mpr ⟨eg_pin eg_p6_4, List.forall_mem_cons.mpr ⟨eg_pin eg_p6_5, List.forall_mem_cons.mpr ⟨eg_pin eg_p6_6, List.forall_mem_cons.mpr ⟨eg_pin eg_p6_7, List.forall_mem_cons.mpr ⟨eg_pin eg_p6_8, List.forall_mem_cons.mpr ⟨eg_pin eg_p6_9, List.forall_mem_cons.mpr ⟨eg_pin eg_p6_10, List.forall_mem_cons.mpr ⟨eg_pin eg_p6_11, List.forall_mem_cons.mpr ⟨eg_pin eg_p6_12, List.forall_mem_cons.mpr ⟨eg_pin eg_p6_13, List.forall_mem_cons.mpr ⟨eg_pin eg_p6_14, List.forall_mem_cons.mpr ⟨eg_pin eg_p6_15, List.forall_mem_cons.mpr ⟨eg_pin eg_p6_16, List.forall_mem_cons.mpr ⟨eg_pin eg_p6_17, List.forall_mem_cons.mpr ⟨eg_pin eg_p6_18, List.forall_mem_cons.mpr ⟨eg_pin eg_p6_19, fun _ h => nomatch h⟩⟩⟩⟩⟩⟩⟩⟩⟩⟩⟩⟩⟩⟩⟩⟩⟩⟩⟩⟩
  intro w hw
  obtain ⟨l, hl, hw⟩ := List.mem_flatMap.mp hw
  exact h l hl w hw
theorem eg_W_in : ∀ w ∈ eg_W, w ∈ lw_tbl :=
  List.forall_mem_append.mpr ⟨eg_pin eg_p1, List.forall_mem_append.mpr ⟨eg_pin eg_p2, List.forall_mem_append.mpr ⟨eg_pin eg_p3, List.forall_mem_append.mpr ⟨eg_pin eg_p4, List.forall_mem_append.mpr ⟨eg_p5, List.forall_mem_append.mpr ⟨eg_p6, List.forall_mem_append.mpr ⟨eg_pin eg_p7, List.forall_mem_append.mpr ⟨eg_pin eg_p8, eg_pin eg_p9⟩⟩⟩⟩⟩⟩⟩⟩

/-! the law: its cases, the last -/
/-- act -/
def iL31 : List (Nat × Instr × Nat) := [(1385, .aload_n 1, 1), (1386, .aload_n 0, 1), (1387, .iload_n 3, 1), (1388, .iconst 1, 1), (1389, .iadd, 1), (1390, .iaload, 1), (1391, .aload_n 0, 1), (1392, .iload_n 3, 1), (1393, .iconst 2, 1), (1394, .iadd, 1), (1395, .iaload, 1), (1396, .aload_n 0, 1), (1397, .iload_n 3, 1), (1398, .iconst 3, 1), (1399, .iadd, 1), (1400, .iaload, 1), (1401, .invokevirtual 142, 3), (1404, .aload_n 2, 1), (1405, .aload_n 0, 1), (1406, .iload_n 3, 1), (1407, .iconst 1, 1), (1408, .iadd, 1), (1409, .iaload, 1), (1410, .aload_n 0, 1), (1411, .iload_n 3, 1), (1412, .iconst 2, 1), (1413, .iadd, 1), (1414, .iaload, 1), (1415, .aload_n 0, 1), (1416, .iload_n 3, 1), (1417, .iconst 3, 1), (1418, .iadd, 1), (1419, .iaload, 1), (1420, .invokevirtual 145, 3), (1423, .if_icmp .eq 363, 3), (1426, .iconst 0, 1), (1427, .ireturn, 1)]
theorem dL31 : qDec (mLw iL31) := (by decide +kernel : ∀ q ∈ iL31, decode code q.1 = .ok q.2)
set_option maxRecDepth 20000 in
set_option maxHeartbeats 4000000 in
theorem lc_31 {G : QW} (hT : TB G) (hL : G.oL 0 ≤ 3072) {i : Int} (hi : 0 ≤ i) (hj : i + 6 ≤ (G.oL 0 : Int)) {m : AM} (h : Inv m) {cc cs : Nat} (hc : cc ≤ 10000) (hs : cs ≤ 1000000) (kk : ∀ (m2 : AM) (c2 s2 : Nat), Inv m2 → c2 ≤ cc + 9 → s2 ≤ cs + 235 → qJ G (mLw iLH) room_1 (LF G) 1786 (lawL i) [] m2 c2 s2) : qJ G (mLw iLH) room_1 (LF G) 1385 (lawL i) [] m cc cs := by
  refine j_with dL31 ?_
  refine j_aload_n rfl rfl ?_
  refine j_arg rfl rfl rfl rfl rfl (by omega) (by omega) hL ?_
  refine j_arg rfl rfl rfl rfl rfl (by omega) (by omega) hL ?_
  refine j_arg rfl rfl rfl rfl rfl (by omega) (by omega) hL ?_
  refine j_callV (ci := 11) rfl okX11_act c_L_142 (ag_act hT h (ox1 _) (ox2 _) (ox1 _) (ox2 _)) rfl rfl (h.s.lt (by decide)) (h.s.k (by decide) (by decide)) (by decide) rfl (Nat.le_of_ble_eq_true rfl) (by decide) ⟨by show _ ≤ 600000; omega, by show _ ≤ 7302250; omega⟩ ?_
  rintro v m1 ⟨⟨t, a⟩, rfl, ht, hS, hM⟩
  have ht : t = 0 := ht
  subst ht
  simp only [Option.toList_some, List.cons_append, List.nil_append]
  refine j_aload_n rfl rfl ?_
  refine j_arg rfl rfl rfl rfl rfl (by omega) (by omega) hL ?_
  refine j_arg rfl rfl rfl rfl rfl (by omega) (by omega) hL ?_
  refine j_arg rfl rfl rfl rfl rfl (by omega) (by omega) hL ?_
  refine j_callV (ci := 12) rfl okX12_act c_L_145 hM rfl rfl (hS.lt (by decide)) (hS.k (by decide) (by decide)) (by decide) rfl (Nat.le_of_ble_eq_true rfl) (by decide) ⟨by show _ ≤ 600000; omega, by show _ ≤ 7302250; omega⟩ ?_
  rintro v2 m2 ⟨rfl, hI⟩
  simp only [Option.toList_some, List.cons_append, List.nil_append]
  refine j_icmp_same (tgt := 1786) rfl (by decide) ?_
  exact j_with dLH (kk _ _ _ hI (by omega) (by omega))
/-- trace -/
def iL32 : List (Nat × Instr × Nat) := [(1428, .aload_n 1, 1), (1429, .aload_n 0, 1), (1430, .iload_n 3, 1), (1431, .iconst 1, 1), (1432, .iadd, 1), (1433, .iaload, 1), (1434, .invokevirtual 146, 3), (1437, .aload_n 2, 1), (1438, .aload_n 0, 1), (1439, .iload_n 3, 1), (1440, .iconst 1, 1), (1441, .iadd, 1), (1442, .iaload, 1), (1443, .invokevirtual 149, 3), (1446, .if_icmp .eq 340, 3), (1449, .iconst 0, 1), (1450, .ireturn, 1)]
theorem dL32 : qDec (mLw iL32) := (by decide +kernel : ∀ q ∈ iL32, decode code q.1 = .ok q.2)
set_option maxRecDepth 20000 in
set_option maxHeartbeats 4000000 in
theorem lc_32 {G : QW} (hT : TB G) (hL : G.oL 0 ≤ 3072) {i : Int} (hi : 0 ≤ i) (hj : i + 6 ≤ (G.oL 0 : Int)) {m : AM} (h : Inv m) {cc cs : Nat} (hc : cc ≤ 10000) (hs : cs ≤ 1000000) (kk : ∀ (m2 : AM) (c2 s2 : Nat), Inv m2 → c2 ≤ cc + 9 → s2 ≤ cs + 235 → qJ G (mLw iLH) room_1 (LF G) 1786 (lawL i) [] m2 c2 s2) : qJ G (mLw iLH) room_1 (LF G) 1428 (lawL i) [] m cc cs := by
  refine j_with dL32 ?_
  refine j_aload_n rfl rfl ?_
  refine j_arg rfl rfl rfl rfl rfl (by omega) (by omega) hL ?_
  refine j_callV (ci := 11) rfl okX11_trace c_L_146 (ag_trace h (ox1 _) (ox2 _)) rfl rfl (h.s.lt (by decide)) (h.s.k (by decide) (by decide)) (by decide) rfl (Nat.le_of_ble_eq_true rfl) (by decide) ⟨by show _ ≤ 600000; omega, by show _ ≤ 7302250; omega⟩ ?_
  rintro v m1 ⟨⟨t, a⟩, rfl, ht, hS, hM⟩
  have ht : t = 0 := ht
  subst ht
  simp only [Option.toList_some, List.cons_append, List.nil_append]
  refine j_aload_n rfl rfl ?_
  refine j_arg rfl rfl rfl rfl rfl (by omega) (by omega) hL ?_
  refine j_callV (ci := 12) rfl okX12_trace c_L_149 hM rfl rfl (hS.lt (by decide)) (hS.k (by decide) (by decide)) (by decide) rfl (Nat.le_of_ble_eq_true rfl) (by decide) ⟨by show _ ≤ 600000; omega, by show _ ≤ 7302250; omega⟩ ?_
  rintro v2 m2 ⟨rfl, hI⟩
  simp only [Option.toList_some, List.cons_append, List.nil_append]
  refine j_icmp_same (tgt := 1786) rfl (by decide) ?_
  exact j_with dLH (kk _ _ _ hI (by omega) (by omega))
/-- keep -/
def iL33 : List (Nat × Instr × Nat) := [(1451, .aload_n 1, 1), (1452, .aload_n 0, 1), (1453, .iload_n 3, 1), (1454, .iconst 1, 1), (1455, .iadd, 1), (1456, .iaload, 1), (1457, .aload_n 0, 1), (1458, .iload_n 3, 1), (1459, .iconst 2, 1), (1460, .iadd, 1), (1461, .iaload, 1), (1462, .invokevirtual 150, 3), (1465, .aload_n 2, 1), (1466, .aload_n 0, 1), (1467, .iload_n 3, 1), (1468, .iconst 1, 1), (1469, .iadd, 1), (1470, .iaload, 1), (1471, .aload_n 0, 1), (1472, .iload_n 3, 1), (1473, .iconst 2, 1), (1474, .iadd, 1), (1475, .iaload, 1), (1476, .invokevirtual 153, 3), (1479, .if_icmp .eq 307, 3), (1482, .iconst 0, 1), (1483, .ireturn, 1)]
theorem dL33 : qDec (mLw iL33) := (by decide +kernel : ∀ q ∈ iL33, decode code q.1 = .ok q.2)
set_option maxRecDepth 20000 in
set_option maxHeartbeats 4000000 in
theorem lc_33 {G : QW} (hT : TB G) (hL : G.oL 0 ≤ 3072) {i : Int} (hi : 0 ≤ i) (hj : i + 6 ≤ (G.oL 0 : Int)) {m : AM} (h : Inv m) {cc cs : Nat} (hc : cc ≤ 10000) (hs : cs ≤ 1000000) (kk : ∀ (m2 : AM) (c2 s2 : Nat), Inv m2 → c2 ≤ cc + 9 → s2 ≤ cs + 235 → qJ G (mLw iLH) room_1 (LF G) 1786 (lawL i) [] m2 c2 s2) : qJ G (mLw iLH) room_1 (LF G) 1451 (lawL i) [] m cc cs := by
  refine j_with dL33 ?_
  refine j_aload_n rfl rfl ?_
  refine j_arg rfl rfl rfl rfl rfl (by omega) (by omega) hL ?_
  refine j_arg rfl rfl rfl rfl rfl (by omega) (by omega) hL ?_
  refine j_callV (ci := 11) rfl okX11_keep c_L_150 (ag_keep h (ox1 _) (ox2 _) (ox1 _) (ox2 _)) rfl rfl (h.s.lt (by decide)) (h.s.k (by decide) (by decide)) (by decide) rfl (Nat.le_of_ble_eq_true rfl) (by decide) ⟨by show _ ≤ 600000; omega, by show _ ≤ 7302250; omega⟩ ?_
  rintro v m1 ⟨⟨t, a⟩, rfl, ht, hS, hM⟩
  have ht : t = 0 := ht
  subst ht
  simp only [Option.toList_some, List.cons_append, List.nil_append]
  refine j_aload_n rfl rfl ?_
  refine j_arg rfl rfl rfl rfl rfl (by omega) (by omega) hL ?_
  refine j_arg rfl rfl rfl rfl rfl (by omega) (by omega) hL ?_
  refine j_callV (ci := 12) rfl okX12_keep c_L_153 hM rfl rfl (hS.lt (by decide)) (hS.k (by decide) (by decide)) (by decide) rfl (Nat.le_of_ble_eq_true rfl) (by decide) ⟨by show _ ≤ 600000; omega, by show _ ≤ 7302250; omega⟩ ?_
  rintro v2 m2 ⟨rfl, hI⟩
  simp only [Option.toList_some, List.cons_append, List.nil_append]
  refine j_icmp_same (tgt := 1786) rfl (by decide) ?_
  exact j_with dLH (kk _ _ _ hI (by omega) (by omega))
/-- row -/
def iL34 : List (Nat × Instr × Nat) := [(1484, .aload_n 1, 1), (1485, .aload_n 0, 1), (1486, .iload_n 3, 1), (1487, .iconst 1, 1), (1488, .iadd, 1), (1489, .iaload, 1), (1490, .aload_n 0, 1), (1491, .iload_n 3, 1), (1492, .iconst 2, 1), (1493, .iadd, 1), (1494, .iaload, 1), (1495, .aload_n 0, 1), (1496, .iload_n 3, 1), (1497, .iconst 3, 1), (1498, .iadd, 1), (1499, .iaload, 1), (1500, .invokevirtual 154, 3), (1503, .aload_n 2, 1), (1504, .aload_n 0, 1), (1505, .iload_n 3, 1), (1506, .iconst 1, 1), (1507, .iadd, 1), (1508, .iaload, 1), (1509, .aload_n 0, 1), (1510, .iload_n 3, 1), (1511, .iconst 2, 1), (1512, .iadd, 1), (1513, .iaload, 1), (1514, .aload_n 0, 1), (1515, .iload_n 3, 1), (1516, .iconst 3, 1), (1517, .iadd, 1), (1518, .iaload, 1), (1519, .invokevirtual 157, 3), (1522, .if_icmp .eq 264, 3), (1525, .iconst 0, 1), (1526, .ireturn, 1)]
theorem dL34 : qDec (mLw iL34) := (by decide +kernel : ∀ q ∈ iL34, decode code q.1 = .ok q.2)
set_option maxRecDepth 20000 in
set_option maxHeartbeats 4000000 in
theorem lc_34 {G : QW} (hT : TB G) (hL : G.oL 0 ≤ 3072) {i : Int} (hi : 0 ≤ i) (hj : i + 6 ≤ (G.oL 0 : Int)) {m : AM} (h : Inv m) {cc cs : Nat} (hc : cc ≤ 10000) (hs : cs ≤ 1000000) (kk : ∀ (m2 : AM) (c2 s2 : Nat), Inv m2 → c2 ≤ cc + 9 → s2 ≤ cs + 235 → qJ G (mLw iLH) room_1 (LF G) 1786 (lawL i) [] m2 c2 s2) : qJ G (mLw iLH) room_1 (LF G) 1484 (lawL i) [] m cc cs := by
  refine j_with dL34 ?_
  refine j_aload_n rfl rfl ?_
  refine j_arg rfl rfl rfl rfl rfl (by omega) (by omega) hL ?_
  refine j_arg rfl rfl rfl rfl rfl (by omega) (by omega) hL ?_
  refine j_arg rfl rfl rfl rfl rfl (by omega) (by omega) hL ?_
  refine j_callV (ci := 11) rfl okX11_row c_L_154 (ag_row h (ox1 _) (ox2 _) (ox1 _) (ox2 _) (ox1 _) (ox2 _)) rfl rfl (h.s.lt (by decide)) (h.s.k (by decide) (by decide)) (by decide) rfl (Nat.le_of_ble_eq_true rfl) (by decide) ⟨by show _ ≤ 600000; omega, by show _ ≤ 7302250; omega⟩ ?_
  rintro v m1 ⟨⟨t, a⟩, rfl, ht, hS, hM⟩
  have ht : t = 0 := ht
  subst ht
  simp only [Option.toList_some, List.cons_append, List.nil_append]
  refine j_aload_n rfl rfl ?_
  refine j_arg rfl rfl rfl rfl rfl (by omega) (by omega) hL ?_
  refine j_arg rfl rfl rfl rfl rfl (by omega) (by omega) hL ?_
  refine j_arg rfl rfl rfl rfl rfl (by omega) (by omega) hL ?_
  refine j_callV (ci := 12) rfl okX12_row c_L_157 hM rfl rfl (hS.lt (by decide)) (hS.k (by decide) (by decide)) (by decide) rfl (Nat.le_of_ble_eq_true rfl) (by decide) ⟨by show _ ≤ 600000; omega, by show _ ≤ 7302250; omega⟩ ?_
  rintro v2 m2 ⟨rfl, hI⟩
  simp only [Option.toList_some, List.cons_append, List.nil_append]
  refine j_icmp_same (tgt := 1786) rfl (by decide) ?_
  exact j_with dLH (kk _ _ _ hI (by omega) (by omega))
/-- put -/
def iL35 : List (Nat × Instr × Nat) := [(1527, .aload_n 1, 1), (1528, .aload_n 0, 1), (1529, .iload_n 3, 1), (1530, .iconst 1, 1), (1531, .iadd, 1), (1532, .iaload, 1), (1533, .aload_n 0, 1), (1534, .iload_n 3, 1), (1535, .iconst 2, 1), (1536, .iadd, 1), (1537, .iaload, 1), (1538, .aload_n 0, 1), (1539, .iload_n 3, 1), (1540, .iconst 3, 1), (1541, .iadd, 1), (1542, .iaload, 1), (1543, .i2l, 1), (1544, .bipush 32, 2), (1546, .lshl, 1), (1547, .aload_n 0, 1), (1548, .iload_n 3, 1), (1549, .iconst 4, 1), (1550, .iadd, 1), (1551, .iaload, 1), (1552, .i2l, 1), (1553, .ldc2_w 158, 3), (1556, .land, 1), (1557, .lor, 1), (1558, .invokevirtual 160, 3), (1561, .aload_n 2, 1), (1562, .aload_n 0, 1), (1563, .iload_n 3, 1), (1564, .iconst 1, 1), (1565, .iadd, 1), (1566, .iaload, 1), (1567, .aload_n 0, 1), (1568, .iload_n 3, 1), (1569, .iconst 2, 1), (1570, .iadd, 1), (1571, .iaload, 1), (1572, .aload_n 0, 1), (1573, .iload_n 3, 1), (1574, .iconst 3, 1), (1575, .iadd, 1), (1576, .iaload, 1), (1577, .i2l, 1), (1578, .bipush 32, 2), (1580, .lshl, 1), (1581, .aload_n 0, 1), (1582, .iload_n 3, 1), (1583, .iconst 4, 1), (1584, .iadd, 1), (1585, .iaload, 1), (1586, .i2l, 1), (1587, .ldc2_w 158, 3), (1590, .land, 1), (1591, .lor, 1), (1592, .invokevirtual 164, 3), (1595, .if_icmp .eq 191, 3), (1598, .iconst 0, 1), (1599, .ireturn, 1)]
theorem dL35 : qDec (mLw iL35) := (by decide +kernel : ∀ q ∈ iL35, decode code q.1 = .ok q.2)
set_option maxRecDepth 20000 in
set_option maxHeartbeats 4000000 in
theorem lc_35 {G : QW} (hT : TB G) (hL : G.oL 0 ≤ 3072) {i : Int} (hi : 0 ≤ i) (hj : i + 6 ≤ (G.oL 0 : Int)) {m : AM} (h : Inv m) {cc cs : Nat} (hc : cc ≤ 10000) (hs : cs ≤ 1000000) (kk : ∀ (m2 : AM) (c2 s2 : Nat), Inv m2 → c2 ≤ cc + 9 → s2 ≤ cs + 235 → qJ G (mLw iLH) room_1 (LF G) 1786 (lawL i) [] m2 c2 s2) : qJ G (mLw iLH) room_1 (LF G) 1527 (lawL i) [] m cc cs := by
  refine j_with dL35 ?_
  refine j_aload_n rfl rfl ?_
  refine j_arg rfl rfl rfl rfl rfl (by omega) (by omega) hL ?_
  refine j_arg rfl rfl rfl rfl rfl (by omega) (by omega) hL ?_
  refine j_arg rfl rfl rfl rfl rfl (by omega) (by omega) hL ?_
  refine j_i2l rfl (ox1 _) (ox2 _) ?_
  refine j_bipush rfl (by decide) ?_
  refine j_lshl rfl ?_
  refine j_arg rfl rfl rfl rfl rfl (by omega) (by omega) hL ?_
  refine j_i2l rfl (ox1 _) (ox2 _) ?_
  refine j_ldc2 rfl k_L_158 ?_
  refine j_land rfl ?_
  refine j_lor rfl ?_
  refine j_callV (ci := 11) rfl okX11_put c_L_160 (ag_put h (ox1 _) (ox2 _) (ox1 _) (ox2 _) (z_lor_rng _ _).1 (z_lor_rng _ _).2) rfl rfl (h.s.lt (by decide)) (h.s.k (by decide) (by decide)) (by decide) rfl (Nat.le_of_ble_eq_true rfl) (by decide) ⟨by show _ ≤ 600000; omega, by show _ ≤ 7302250; omega⟩ ?_
  rintro v m1 ⟨⟨t, a⟩, rfl, ht, hS, hM⟩
  have ht : t = 0 := ht
  subst ht
  simp only [Option.toList_some, List.cons_append, List.nil_append]
  refine j_aload_n rfl rfl ?_
  refine j_arg rfl rfl rfl rfl rfl (by omega) (by omega) hL ?_
  refine j_arg rfl rfl rfl rfl rfl (by omega) (by omega) hL ?_
  refine j_arg rfl rfl rfl rfl rfl (by omega) (by omega) hL ?_
  refine j_i2l rfl (ox1 _) (ox2 _) ?_
  refine j_bipush rfl (by decide) ?_
  refine j_lshl rfl ?_
  refine j_arg rfl rfl rfl rfl rfl (by omega) (by omega) hL ?_
  refine j_i2l rfl (ox1 _) (ox2 _) ?_
  refine j_ldc2 rfl k_L_158 ?_
  refine j_land rfl ?_
  refine j_lor rfl ?_
  refine j_callV (ci := 12) rfl okX12_put c_L_164 hM rfl rfl (hS.lt (by decide)) (hS.k (by decide) (by decide)) (by decide) rfl (Nat.le_of_ble_eq_true rfl) (by decide) ⟨by show _ ≤ 600000; omega, by show _ ≤ 7302250; omega⟩ ?_
  rintro v2 m2 ⟨rfl, hI⟩
  simp only [Option.toList_some, List.cons_append, List.nil_append]
  refine j_icmp_same (tgt := 1786) rfl (by decide) ?_
  exact j_with dLH (kk _ _ _ hI (by omega) (by omega))
/-- noNumber -/
def iL36 : List (Nat × Instr × Nat) := [(1600, .aload_n 1, 1), (1601, .aload_n 0, 1), (1602, .iload_n 3, 1), (1603, .iconst 1, 1), (1604, .iadd, 1), (1605, .iaload, 1), (1606, .aload_n 0, 1), (1607, .iload_n 3, 1), (1608, .iconst 2, 1), (1609, .iadd, 1), (1610, .iaload, 1), (1611, .invokevirtual 165, 3), (1614, .aload_n 2, 1), (1615, .aload_n 0, 1), (1616, .iload_n 3, 1), (1617, .iconst 1, 1), (1618, .iadd, 1), (1619, .iaload, 1), (1620, .aload_n 0, 1), (1621, .iload_n 3, 1), (1622, .iconst 2, 1), (1623, .iadd, 1), (1624, .iaload, 1), (1625, .invokevirtual 168, 3), (1628, .if_icmp .eq 158, 3), (1631, .iconst 0, 1), (1632, .ireturn, 1)]
theorem dL36 : qDec (mLw iL36) := (by decide +kernel : ∀ q ∈ iL36, decode code q.1 = .ok q.2)
set_option maxRecDepth 20000 in
set_option maxHeartbeats 4000000 in
theorem lc_36 {G : QW} (hT : TB G) (hL : G.oL 0 ≤ 3072) {i : Int} (hi : 0 ≤ i) (hj : i + 6 ≤ (G.oL 0 : Int)) {m : AM} (h : Inv m) {cc cs : Nat} (hc : cc ≤ 10000) (hs : cs ≤ 1000000) (kk : ∀ (m2 : AM) (c2 s2 : Nat), Inv m2 → c2 ≤ cc + 9 → s2 ≤ cs + 235 → qJ G (mLw iLH) room_1 (LF G) 1786 (lawL i) [] m2 c2 s2) : qJ G (mLw iLH) room_1 (LF G) 1600 (lawL i) [] m cc cs := by
  refine j_with dL36 ?_
  refine j_aload_n rfl rfl ?_
  refine j_arg rfl rfl rfl rfl rfl (by omega) (by omega) hL ?_
  refine j_arg rfl rfl rfl rfl rfl (by omega) (by omega) hL ?_
  refine j_callV (ci := 11) rfl okX11_noNumber c_L_165 (ag_noNumber h (ox1 _) (ox2 _) (ox1 _) (ox2 _)) rfl rfl (h.s.lt (by decide)) (h.s.k (by decide) (by decide)) (by decide) rfl (Nat.le_of_ble_eq_true rfl) (by decide) ⟨by show _ ≤ 600000; omega, by show _ ≤ 7302250; omega⟩ ?_
  rintro v m1 ⟨⟨t, a⟩, rfl, ht, hS, hM⟩
  have ht : t = 0 := ht
  subst ht
  simp only [Option.toList_some, List.cons_append, List.nil_append]
  refine j_aload_n rfl rfl ?_
  refine j_arg rfl rfl rfl rfl rfl (by omega) (by omega) hL ?_
  refine j_arg rfl rfl rfl rfl rfl (by omega) (by omega) hL ?_
  refine j_callV (ci := 12) rfl okX12_noNumber c_L_168 hM rfl rfl (hS.lt (by decide)) (hS.k (by decide) (by decide)) (by decide) rfl (Nat.le_of_ble_eq_true rfl) (by decide) ⟨by show _ ≤ 600000; omega, by show _ ≤ 7302250; omega⟩ ?_
  rintro v2 m2 ⟨rfl, hI⟩
  simp only [Option.toList_some, List.cons_append, List.nil_append]
  refine j_icmp_same (tgt := 1786) rfl (by decide) ?_
  exact j_with dLH (kk _ _ _ hI (by omega) (by omega))
/-- element -/
def iL37 : List (Nat × Instr × Nat) := [(1633, .aload_n 1, 1), (1634, .aload_n 0, 1), (1635, .iload_n 3, 1), (1636, .iconst 1, 1), (1637, .iadd, 1), (1638, .iaload, 1), (1639, .aload_n 0, 1), (1640, .iload_n 3, 1), (1641, .iconst 2, 1), (1642, .iadd, 1), (1643, .iaload, 1), (1644, .invokevirtual 169, 3), (1647, .aload_n 2, 1), (1648, .aload_n 0, 1), (1649, .iload_n 3, 1), (1650, .iconst 1, 1), (1651, .iadd, 1), (1652, .iaload, 1), (1653, .aload_n 0, 1), (1654, .iload_n 3, 1), (1655, .iconst 2, 1), (1656, .iadd, 1), (1657, .iaload, 1), (1658, .invokevirtual 173, 3), (1661, .lcmp, 1), (1662, .ifCond .eq 124, 3), (1665, .iconst 0, 1), (1666, .ireturn, 1)]
theorem dL37 : qDec (mLw iL37) := (by decide +kernel : ∀ q ∈ iL37, decode code q.1 = .ok q.2)
set_option maxRecDepth 20000 in
set_option maxHeartbeats 4000000 in
theorem lc_37 {G : QW} (hT : TB G) (hL : G.oL 0 ≤ 3072) {i : Int} (hi : 0 ≤ i) (hj : i + 6 ≤ (G.oL 0 : Int)) {m : AM} (h : Inv m) {cc cs : Nat} (hc : cc ≤ 10000) (hs : cs ≤ 1000000) (kk : ∀ (m2 : AM) (c2 s2 : Nat), Inv m2 → c2 ≤ cc + 9 → s2 ≤ cs + 235 → qJ G (mLw iLH) room_1 (LF G) 1786 (lawL i) [] m2 c2 s2) : qJ G (mLw iLH) room_1 (LF G) 1633 (lawL i) [] m cc cs := by
  refine j_with dL37 ?_
  refine j_aload_n rfl rfl ?_
  refine j_arg rfl rfl rfl rfl rfl (by omega) (by omega) hL ?_
  refine j_arg rfl rfl rfl rfl rfl (by omega) (by omega) hL ?_
  refine j_callV (ci := 11) rfl okX11_element c_L_169 (ag_element h (ox1 _) (ox2 _) (ox1 _) (ox2 _)) rfl rfl (h.s.lt (by decide)) (h.s.k (by decide) (by decide)) (by decide) rfl (Nat.le_of_ble_eq_true rfl) (by decide) ⟨by show _ ≤ 600000; omega, by show _ ≤ 7302250; omega⟩ ?_
  rintro v m1 ⟨⟨t, a⟩, rfl, ht, hS, hM⟩
  have ht : t = 1 := ht
  subst ht
  simp only [Option.toList_some, List.cons_append, List.nil_append]
  refine j_aload_n rfl rfl ?_
  refine j_arg rfl rfl rfl rfl rfl (by omega) (by omega) hL ?_
  refine j_arg rfl rfl rfl rfl rfl (by omega) (by omega) hL ?_
  refine j_callV (ci := 12) rfl okX12_element c_L_173 hM rfl rfl (hS.lt (by decide)) (hS.k (by decide) (by decide)) (by decide) rfl (Nat.le_of_ble_eq_true rfl) (by decide) ⟨by show _ ≤ 600000; omega, by show _ ≤ 7302250; omega⟩ ?_
  rintro v2 m2 ⟨rfl, hI⟩
  simp only [Option.toList_some, List.cons_append, List.nil_append]
  refine j_lcmp_same (tgt := 1786) rfl rfl (by decide) ?_
  exact j_with dLH (kk _ _ _ hI (by omega) (by omega))
/-- shift -/
def iL38 : List (Nat × Instr × Nat) := [(1667, .aload_n 1, 1), (1668, .aload_n 0, 1), (1669, .iload_n 3, 1), (1670, .iconst 1, 1), (1671, .iadd, 1), (1672, .iaload, 1), (1673, .aload_n 0, 1), (1674, .iload_n 3, 1), (1675, .iconst 2, 1), (1676, .iadd, 1), (1677, .iaload, 1), (1678, .aload_n 0, 1), (1679, .iload_n 3, 1), (1680, .iconst 3, 1), (1681, .iadd, 1), (1682, .iaload, 1), (1683, .aload_n 0, 1), (1684, .iload_n 3, 1), (1685, .iconst 4, 1), (1686, .iadd, 1), (1687, .iaload, 1), (1688, .aload_n 0, 1), (1689, .iload_n 3, 1), (1690, .iconst 5, 1), (1691, .iadd, 1), (1692, .iaload, 1), (1693, .invokevirtual 174, 3), (1696, .aload_n 2, 1), (1697, .aload_n 0, 1), (1698, .iload_n 3, 1), (1699, .iconst 1, 1), (1700, .iadd, 1), (1701, .iaload, 1), (1702, .aload_n 0, 1), (1703, .iload_n 3, 1), (1704, .iconst 2, 1), (1705, .iadd, 1), (1706, .iaload, 1), (1707, .aload_n 0, 1), (1708, .iload_n 3, 1), (1709, .iconst 3, 1), (1710, .iadd, 1), (1711, .iaload, 1), (1712, .aload_n 0, 1), (1713, .iload_n 3, 1), (1714, .iconst 4, 1), (1715, .iadd, 1), (1716, .iaload, 1), (1717, .aload_n 0, 1), (1718, .iload_n 3, 1), (1719, .iconst 5, 1), (1720, .iadd, 1), (1721, .iaload, 1), (1722, .invokevirtual 178, 3), (1725, .if_icmp .eq 61, 3), (1728, .iconst 0, 1), (1729, .ireturn, 1)]
theorem dL38 : qDec (mLw iL38) := (by decide +kernel : ∀ q ∈ iL38, decode code q.1 = .ok q.2)
set_option maxRecDepth 20000 in
set_option maxHeartbeats 4000000 in
theorem lc_38 {G : QW} (hT : TB G) (hL : G.oL 0 ≤ 3072) {i : Int} (hi : 0 ≤ i) (hj : i + 6 ≤ (G.oL 0 : Int)) {m : AM} (h : Inv m) {cc cs : Nat} (hc : cc ≤ 10000) (hs : cs ≤ 1000000) (kk : ∀ (m2 : AM) (c2 s2 : Nat), Inv m2 → c2 ≤ cc + 9 → s2 ≤ cs + 235 → qJ G (mLw iLH) room_1 (LF G) 1786 (lawL i) [] m2 c2 s2) : qJ G (mLw iLH) room_1 (LF G) 1667 (lawL i) [] m cc cs := by
  refine j_with dL38 ?_
  refine j_aload_n rfl rfl ?_
  refine j_arg rfl rfl rfl rfl rfl (by omega) (by omega) hL ?_
  refine j_arg rfl rfl rfl rfl rfl (by omega) (by omega) hL ?_
  refine j_arg rfl rfl rfl rfl rfl (by omega) (by omega) hL ?_
  refine j_arg rfl rfl rfl rfl rfl (by omega) (by omega) hL ?_
  refine j_arg rfl rfl rfl rfl rfl (by omega) (by omega) hL ?_
  refine j_callV (ci := 11) rfl okX11_shift c_L_174 (ag_shift h (ox1 _) (ox2 _) (ox1 _) (ox2 _) (ox1 _) (ox2 _) (ox1 _) (ox2 _) (ox1 _) (ox2 _)) rfl rfl (h.s.lt (by decide)) (h.s.k (by decide) (by decide)) (by decide) rfl (Nat.le_of_ble_eq_true rfl) (by decide) ⟨by show _ ≤ 600000; omega, by show _ ≤ 7302250; omega⟩ ?_
  rintro v m1 ⟨⟨t, a⟩, rfl, ht, hS, hM⟩
  have ht : t = 0 := ht
  subst ht
  simp only [Option.toList_some, List.cons_append, List.nil_append]
  refine j_aload_n rfl rfl ?_
  refine j_arg rfl rfl rfl rfl rfl (by omega) (by omega) hL ?_
  refine j_arg rfl rfl rfl rfl rfl (by omega) (by omega) hL ?_
  refine j_arg rfl rfl rfl rfl rfl (by omega) (by omega) hL ?_
  refine j_arg rfl rfl rfl rfl rfl (by omega) (by omega) hL ?_
  refine j_arg rfl rfl rfl rfl rfl (by omega) (by omega) hL ?_
  refine j_callV (ci := 12) rfl okX12_shift c_L_178 hM rfl rfl (hS.lt (by decide)) (hS.k (by decide) (by decide)) (by decide) rfl (Nat.le_of_ble_eq_true rfl) (by decide) ⟨by show _ ≤ 600000; omega, by show _ ≤ 7302250; omega⟩ ?_
  rintro v2 m2 ⟨rfl, hI⟩
  simp only [Option.toList_some, List.cons_append, List.nil_append]
  refine j_icmp_same (tgt := 1786) rfl (by decide) ?_
  exact j_with dLH (kk _ _ _ hI (by omega) (by omega))
/-- taken -/
def iL39 : List (Nat × Instr × Nat) := [(1730, .aload_n 1, 1), (1731, .aload_n 0, 1), (1732, .iload_n 3, 1), (1733, .iconst 1, 1), (1734, .iadd, 1), (1735, .iaload, 1), (1736, .aload_n 0, 1), (1737, .iload_n 3, 1), (1738, .iconst 2, 1), (1739, .iadd, 1), (1740, .iaload, 1), (1741, .invokevirtual 179, 3), (1744, .aload_n 2, 1), (1745, .aload_n 0, 1), (1746, .iload_n 3, 1), (1747, .iconst 1, 1), (1748, .iadd, 1), (1749, .iaload, 1), (1750, .aload_n 0, 1), (1751, .iload_n 3, 1), (1752, .iconst 2, 1), (1753, .iadd, 1), (1754, .iaload, 1), (1755, .invokevirtual 182, 3), (1758, .if_icmp .eq 28, 3), (1761, .iconst 0, 1), (1762, .ireturn, 1)]
theorem dL39 : qDec (mLw iL39) := (by decide +kernel : ∀ q ∈ iL39, decode code q.1 = .ok q.2)
set_option maxRecDepth 20000 in
set_option maxHeartbeats 4000000 in
theorem lc_39 {G : QW} (hT : TB G) (hL : G.oL 0 ≤ 3072) {i : Int} (hi : 0 ≤ i) (hj : i + 6 ≤ (G.oL 0 : Int)) {m : AM} (h : Inv m) {cc cs : Nat} (hc : cc ≤ 10000) (hs : cs ≤ 1000000) (kk : ∀ (m2 : AM) (c2 s2 : Nat), Inv m2 → c2 ≤ cc + 9 → s2 ≤ cs + 235 → qJ G (mLw iLH) room_1 (LF G) 1786 (lawL i) [] m2 c2 s2) : qJ G (mLw iLH) room_1 (LF G) 1730 (lawL i) [] m cc cs := by
  refine j_with dL39 ?_
  refine j_aload_n rfl rfl ?_
  refine j_arg rfl rfl rfl rfl rfl (by omega) (by omega) hL ?_
  refine j_arg rfl rfl rfl rfl rfl (by omega) (by omega) hL ?_
  refine j_callV (ci := 11) rfl okX11_taken c_L_179 (ag_taken h hT (ox1 _) (ox2 _) (ox1 _) (ox2 _)) rfl rfl (h.s.lt (by decide)) (h.s.k (by decide) (by decide)) (by decide) rfl (Nat.le_of_ble_eq_true rfl) (by decide) ⟨by show _ ≤ 600000; omega, by show _ ≤ 7302250; omega⟩ ?_
  rintro v m1 ⟨⟨t, a⟩, rfl, ht, hS, hM⟩
  have ht : t = 0 := ht
  subst ht
  simp only [Option.toList_some, List.cons_append, List.nil_append]
  refine j_aload_n rfl rfl ?_
  refine j_arg rfl rfl rfl rfl rfl (by omega) (by omega) hL ?_
  refine j_arg rfl rfl rfl rfl rfl (by omega) (by omega) hL ?_
  refine j_callV (ci := 12) rfl okX12_taken c_L_182 hM rfl rfl (hS.lt (by decide)) (hS.k (by decide) (by decide)) (by decide) rfl (Nat.le_of_ble_eq_true rfl) (by decide) ⟨by show _ ≤ 600000; omega, by show _ ≤ 7302250; omega⟩ ?_
  rintro v2 m2 ⟨rfl, hI⟩
  simp only [Option.toList_some, List.cons_append, List.nil_append]
  refine j_icmp_same (tgt := 1786) rfl (by decide) ?_
  exact j_with dLH (kk _ _ _ hI (by omega) (by omega))
/-- count -/
def iL40 : List (Nat × Instr × Nat) := [(1763, .aload_n 1, 1), (1764, .aload_n 0, 1), (1765, .iload_n 3, 1), (1766, .iconst 1, 1), (1767, .iadd, 1), (1768, .iaload, 1), (1769, .invokevirtual 183, 3), (1772, .aload_n 2, 1), (1773, .aload_n 0, 1), (1774, .iload_n 3, 1), (1775, .iconst 1, 1), (1776, .iadd, 1), (1777, .iaload, 1), (1778, .invokevirtual 186, 3), (1781, .if_icmp .eq 5, 3), (1784, .iconst 0, 1), (1785, .ireturn, 1)]
theorem dL40 : qDec (mLw iL40) := (by decide +kernel : ∀ q ∈ iL40, decode code q.1 = .ok q.2)
set_option maxRecDepth 20000 in
set_option maxHeartbeats 4000000 in
theorem lc_40 {G : QW} (hT : TB G) (hL : G.oL 0 ≤ 3072) {i : Int} (hi : 0 ≤ i) (hj : i + 6 ≤ (G.oL 0 : Int)) {m : AM} (h : Inv m) {cc cs : Nat} (hc : cc ≤ 10000) (hs : cs ≤ 1000000) (kk : ∀ (m2 : AM) (c2 s2 : Nat), Inv m2 → c2 ≤ cc + 9 → s2 ≤ cs + 235 → qJ G (mLw iLH) room_1 (LF G) 1786 (lawL i) [] m2 c2 s2) : qJ G (mLw iLH) room_1 (LF G) 1763 (lawL i) [] m cc cs := by
  refine j_with dL40 ?_
  refine j_aload_n rfl rfl ?_
  refine j_arg rfl rfl rfl rfl rfl (by omega) (by omega) hL ?_
  refine j_callV (ci := 11) rfl okX11_count c_L_183 (ag_count h (ox1 _) (ox2 _)) rfl rfl (h.s.lt (by decide)) (h.s.k (by decide) (by decide)) (by decide) rfl (Nat.le_of_ble_eq_true rfl) (by decide) ⟨by show _ ≤ 600000; omega, by show _ ≤ 7302250; omega⟩ ?_
  rintro v m1 ⟨⟨t, a⟩, rfl, ht, hS, hM⟩
  have ht : t = 0 := ht
  subst ht
  simp only [Option.toList_some, List.cons_append, List.nil_append]
  refine j_aload_n rfl rfl ?_
  refine j_arg rfl rfl rfl rfl rfl (by omega) (by omega) hL ?_
  refine j_callV (ci := 12) rfl okX12_count c_L_186 hM rfl rfl (hS.lt (by decide)) (hS.k (by decide) (by decide)) (by decide) rfl (Nat.le_of_ble_eq_true rfl) (by decide) ⟨by show _ ≤ 600000; omega, by show _ ≤ 7302250; omega⟩ ?_
  rintro v2 m2 ⟨rfl, hI⟩
  simp only [Option.toList_some, List.cons_append, List.nil_append]
  refine j_icmp_same (tgt := 1786) rfl (by decide) ?_
  exact j_with dLH (kk _ _ _ hI (by omega) (by omega))

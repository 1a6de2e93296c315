/-! the law: its cases -/
def iLH : List (Nat × Instr × Nat) := [(0, .new 7, 3), (3, .dup, 1), (4, .invokespecial 9, 3), (7, .astore_n 1, 1), (8, .new 10, 3), (11, .dup, 1), (12, .invokespecial 12, 3), (15, .astore_n 2, 1), (16, .iconst 0, 1), (17, .istore_n 3, 1), (18, .iload_n 3, 1), (19, .aload_n 0, 1), (20, .arraylength, 1), (21, .bipush 6, 2), (23, .isub, 1), (24, .if_icmp .gt 1768, 3), (27, .aload_n 0, 1), (28, .iload_n 3, 1), (29, .iaload, 1), (30, .bipush 63, 2), (32, .iand, 1), (33, .tableswitch 1753 0 40 #[179, 212, 235, 258, 301, 354, 397, 440, 453, 506, 549, 582, 615, 648, 671, 714, 757, 780, 813, 866, 899, 952, 985, 1028, 1071, 1124, 1167, 1220, 1253, 1296, 1329, 1352, 1395, 1418, 1451, 1494, 1567, 1600, 1634, 1697, 1730], 179), (1786, .iinc 3 6, 3), (1789, .goto (-1771), 3), (1792, .iconst 1, 1), (1793, .ireturn, 1)]
theorem dLH : qDec (mLw iLH) := (by decide +kernel : ∀ q ∈ iLH, decode code q.1 = .ok q.2)
/-- feed -/
def iL0 : List (Nat × Instr × Nat) := [(212, .aload_n 1, 1), (213, .aload_n 0, 1), (214, .iload_n 3, 1), (215, .iconst 1, 1), (216, .iadd, 1), (217, .iaload, 1), (218, .aload_n 0, 1), (219, .iload_n 3, 1), (220, .iconst 2, 1), (221, .iadd, 1), (222, .iaload, 1), (223, .invokevirtual 13, 3), (226, .aload_n 2, 1), (227, .aload_n 0, 1), (228, .iload_n 3, 1), (229, .iconst 1, 1), (230, .iadd, 1), (231, .iaload, 1), (232, .aload_n 0, 1), (233, .iload_n 3, 1), (234, .iconst 2, 1), (235, .iadd, 1), (236, .iaload, 1), (237, .invokevirtual 17, 3), (240, .if_icmp .eq 1546, 3), (243, .iconst 0, 1), (244, .ireturn, 1)]
theorem dL0 : qDec (mLw iL0) := (by decide +kernel : ∀ q ∈ iL0, decode code q.1 = .ok q.2)
set_option maxRecDepth 20000 in
set_option maxHeartbeats 4000000 in
theorem lc_0 {G : QW} (hT : TB G) (hL : G.oL 0 ≤ 3072) {i : Int} (hi : 0 ≤ i) (hj : i + 6 ≤ (G.oL 0 : Int)) {m : AM} (h : Inv m) {cc cs : Nat} (hc : cc ≤ 10000) (hs : cs ≤ 1000000) (kk : ∀ (m2 : AM) (c2 s2 : Nat), Inv m2 → c2 ≤ cc + 9 → s2 ≤ cs + 235 → qJ G (mLw iLH) room_1 (LF G) 1786 (lawL i) [] m2 c2 s2) : qJ G (mLw iLH) room_1 (LF G) 212 (lawL i) [] m cc cs := by
  refine j_with dL0 ?_
  refine j_aload_n rfl rfl ?_
  refine j_arg rfl rfl rfl rfl rfl (by omega) (by omega) hL ?_
  refine j_arg rfl rfl rfl rfl rfl (by omega) (by omega) hL ?_
  refine j_callV (ci := 11) rfl okX11_feed c_L_13 (ag_feed h (ox1 _) (ox2 _) (ox1 _) (ox2 _)) rfl rfl (h.s.lt (by decide)) (h.s.k (by decide) (by decide)) (by decide) rfl (Nat.le_of_ble_eq_true rfl) (by decide) ⟨by show _ ≤ 600000; omega, by show _ ≤ 7302250; omega⟩ ?_
  rintro v m1 ⟨⟨t, a⟩, rfl, ht, hS, hM⟩
  have ht : t = 0 := ht
  subst ht
  simp only [Option.toList_some, List.cons_append, List.nil_append]
  refine j_aload_n rfl rfl ?_
  refine j_arg rfl rfl rfl rfl rfl (by omega) (by omega) hL ?_
  refine j_arg rfl rfl rfl rfl rfl (by omega) (by omega) hL ?_
  refine j_callV (ci := 12) rfl okX12_feed c_L_17 hM rfl rfl (hS.lt (by decide)) (hS.k (by decide) (by decide)) (by decide) rfl (Nat.le_of_ble_eq_true rfl) (by decide) ⟨by show _ ≤ 600000; omega, by show _ ≤ 7302250; omega⟩ ?_
  rintro v2 m2 ⟨rfl, hI⟩
  simp only [Option.toList_some, List.cons_append, List.nil_append]
  refine j_icmp_same (tgt := 1786) rfl (by decide) ?_
  exact j_with dLH (kk _ _ _ hI (by omega) (by omega))
/-- box -/
def iL1 : List (Nat × Instr × Nat) := [(245, .aload_n 1, 1), (246, .aload_n 0, 1), (247, .iload_n 3, 1), (248, .iconst 1, 1), (249, .iadd, 1), (250, .iaload, 1), (251, .invokevirtual 18, 3), (254, .aload_n 2, 1), (255, .aload_n 0, 1), (256, .iload_n 3, 1), (257, .iconst 1, 1), (258, .iadd, 1), (259, .iaload, 1), (260, .invokevirtual 22, 3), (263, .if_icmp .eq 1523, 3), (266, .iconst 0, 1), (267, .ireturn, 1)]
theorem dL1 : qDec (mLw iL1) := (by decide +kernel : ∀ q ∈ iL1, decode code q.1 = .ok q.2)
set_option maxRecDepth 20000 in
set_option maxHeartbeats 4000000 in
theorem lc_1 {G : QW} (hT : TB G) (hL : G.oL 0 ≤ 3072) {i : Int} (hi : 0 ≤ i) (hj : i + 6 ≤ (G.oL 0 : Int)) {m : AM} (h : Inv m) {cc cs : Nat} (hc : cc ≤ 10000) (hs : cs ≤ 1000000) (kk : ∀ (m2 : AM) (c2 s2 : Nat), Inv m2 → c2 ≤ cc + 9 → s2 ≤ cs + 235 → qJ G (mLw iLH) room_1 (LF G) 1786 (lawL i) [] m2 c2 s2) : qJ G (mLw iLH) room_1 (LF G) 245 (lawL i) [] m cc cs := by
  refine j_with dL1 ?_
  by_cases hg : (0 ≤ (G.ox 0 (i + 1).toNat).toInt ∧ (G.ox 0 (i + 1).toNat).toInt ≤ 6) ∧ mi m 0 16 < 6
  · refine j_aload_n rfl rfl ?_
    refine j_arg rfl rfl rfl rfl rfl (by omega) (by omega) hL ?_
    refine j_callV (ci := 11) rfl okX11_box c_L_18 (ag_box1 h hg) rfl rfl (h.s.lt (by decide)) (h.s.k (by decide) (by decide)) (by decide) rfl (Nat.le_of_ble_eq_true rfl) (by decide) ⟨by show _ ≤ 600000; omega, by show _ ≤ 7302250; omega⟩ ?_
    rintro v m1 ⟨⟨t, a⟩, rfl, ht, hS, hM⟩
    have ht : t = 0 := ht
    subst ht
    simp only [Option.toList_some, List.cons_append, List.nil_append]
    refine j_aload_n rfl rfl ?_
    refine j_arg rfl rfl rfl rfl rfl (by omega) (by omega) hL ?_
    refine j_callV (ci := 12) rfl okX12_box c_L_22 hM rfl rfl (hS.lt (by decide)) (hS.k (by decide) (by decide)) (by decide) rfl (Nat.le_of_ble_eq_true rfl) (by decide) ⟨by show _ ≤ 600000; omega, by show _ ≤ 7302250; omega⟩ ?_
    rintro v2 m2 ⟨rfl, hI⟩
    simp only [Option.toList_some, List.cons_append, List.nil_append]
    refine j_icmp_same (tgt := 1786) rfl (by decide) ?_
    exact j_with dLH (kk _ _ _ hI (by omega) (by omega))
  · refine j_aload_n rfl rfl ?_
    refine j_arg rfl rfl rfl rfl rfl (by omega) (by omega) hL ?_
    refine j_callV (ci := 11) rfl okX11_box c_L_18 (ag_box0 h (ox1 _) (ox2 _) hg) rfl rfl (h.s.lt (by decide)) (h.s.k (by decide) (by decide)) (by decide) rfl (Nat.le_of_ble_eq_true rfl) (by decide) ⟨by show _ ≤ 600000; omega, by show _ ≤ 7302250; omega⟩ ?_
    rintro v m1 ⟨⟨t, a⟩, rfl, ht, hS, hM⟩
    have ht : t = 0 := ht
    subst ht
    simp only [Option.toList_some, List.cons_append, List.nil_append]
    refine j_aload_n rfl rfl ?_
    refine j_arg rfl rfl rfl rfl rfl (by omega) (by omega) hL ?_
    refine j_callV (ci := 12) rfl okX12_box c_L_22 hM rfl rfl (hS.lt (by decide)) (hS.k (by decide) (by decide)) (by decide) rfl (Nat.le_of_ble_eq_true rfl) (by decide) ⟨by show _ ≤ 600000; omega, by show _ ≤ 7302250; omega⟩ ?_
    rintro v2 m2 ⟨rfl, hI⟩
    simp only [Option.toList_some, List.cons_append, List.nil_append]
    refine j_icmp_same (tgt := 1786) rfl (by decide) ?_
    exact j_with dLH (kk _ _ _ hI (by omega) (by omega))
/-- program -/
def iL2 : List (Nat × Instr × Nat) := [(268, .aload_n 1, 1), (269, .aload_n 0, 1), (270, .iload_n 3, 1), (271, .iconst 1, 1), (272, .iadd, 1), (273, .iaload, 1), (274, .invokevirtual 23, 3), (277, .aload_n 2, 1), (278, .aload_n 0, 1), (279, .iload_n 3, 1), (280, .iconst 1, 1), (281, .iadd, 1), (282, .iaload, 1), (283, .invokevirtual 26, 3), (286, .if_icmp .eq 1500, 3), (289, .iconst 0, 1), (290, .ireturn, 1)]
theorem dL2 : qDec (mLw iL2) := (by decide +kernel : ∀ q ∈ iL2, decode code q.1 = .ok q.2)
set_option maxRecDepth 20000 in
set_option maxHeartbeats 4000000 in
theorem lc_2 {G : QW} (hT : TB G) (hL : G.oL 0 ≤ 3072) {i : Int} (hi : 0 ≤ i) (hj : i + 6 ≤ (G.oL 0 : Int)) {m : AM} (h : Inv m) {cc cs : Nat} (hc : cc ≤ 10000) (hs : cs ≤ 1000000) (kk : ∀ (m2 : AM) (c2 s2 : Nat), Inv m2 → c2 ≤ cc + 9 → s2 ≤ cs + 235 → qJ G (mLw iLH) room_1 (LF G) 1786 (lawL i) [] m2 c2 s2) : qJ G (mLw iLH) room_1 (LF G) 268 (lawL i) [] m cc cs := by
  refine j_with dL2 ?_
  refine j_aload_n rfl rfl ?_
  refine j_arg rfl rfl rfl rfl rfl (by omega) (by omega) hL ?_
  refine j_callV (ci := 11) rfl okX11_program c_L_23 (ag_program h (ox1 _) (ox2 _)) rfl rfl (h.s.lt (by decide)) (h.s.k (by decide) (by decide)) (by decide) rfl (Nat.le_of_ble_eq_true rfl) (by decide) ⟨by show _ ≤ 600000; omega, by show _ ≤ 7302250; omega⟩ ?_
  rintro v m1 ⟨⟨t, a⟩, rfl, ht, hS, hM⟩
  have ht : t = 0 := ht
  subst ht
  simp only [Option.toList_some, List.cons_append, List.nil_append]
  refine j_aload_n rfl rfl ?_
  refine j_arg rfl rfl rfl rfl rfl (by omega) (by omega) hL ?_
  refine j_callV (ci := 12) rfl okX12_program c_L_26 hM rfl rfl (hS.lt (by decide)) (hS.k (by decide) (by decide)) (by decide) rfl (Nat.le_of_ble_eq_true rfl) (by decide) ⟨by show _ ≤ 600000; omega, by show _ ≤ 7302250; omega⟩ ?_
  rintro v2 m2 ⟨rfl, hI⟩
  simp only [Option.toList_some, List.cons_append, List.nil_append]
  refine j_icmp_same (tgt := 1786) rfl (by decide) ?_
  exact j_with dLH (kk _ _ _ hI (by omega) (by omega))
/-- bits -/
def iL3 : List (Nat × Instr × Nat) := [(291, .aload_n 1, 1), (292, .aload_n 0, 1), (293, .iload_n 3, 1), (294, .iconst 1, 1), (295, .iadd, 1), (296, .iaload, 1), (297, .aload_n 0, 1), (298, .iload_n 3, 1), (299, .iconst 2, 1), (300, .iadd, 1), (301, .iaload, 1), (302, .aload_n 0, 1), (303, .iload_n 3, 1), (304, .iconst 3, 1), (305, .iadd, 1), (306, .iaload, 1), (307, .invokevirtual 27, 3), (310, .aload_n 2, 1), (311, .aload_n 0, 1), (312, .iload_n 3, 1), (313, .iconst 1, 1), (314, .iadd, 1), (315, .iaload, 1), (316, .aload_n 0, 1), (317, .iload_n 3, 1), (318, .iconst 2, 1), (319, .iadd, 1), (320, .iaload, 1), (321, .aload_n 0, 1), (322, .iload_n 3, 1), (323, .iconst 3, 1), (324, .iadd, 1), (325, .iaload, 1), (326, .invokevirtual 31, 3), (329, .if_icmp .eq 1457, 3), (332, .iconst 0, 1), (333, .ireturn, 1)]
theorem dL3 : qDec (mLw iL3) := (by decide +kernel : ∀ q ∈ iL3, decode code q.1 = .ok q.2)
set_option maxRecDepth 20000 in
set_option maxHeartbeats 4000000 in
theorem lc_3 {G : QW} (hT : TB G) (hL : G.oL 0 ≤ 3072) {i : Int} (hi : 0 ≤ i) (hj : i + 6 ≤ (G.oL 0 : Int)) {m : AM} (h : Inv m) {cc cs : Nat} (hc : cc ≤ 10000) (hs : cs ≤ 1000000) (kk : ∀ (m2 : AM) (c2 s2 : Nat), Inv m2 → c2 ≤ cc + 9 → s2 ≤ cs + 235 → qJ G (mLw iLH) room_1 (LF G) 1786 (lawL i) [] m2 c2 s2) : qJ G (mLw iLH) room_1 (LF G) 291 (lawL i) [] m cc cs := by
  refine j_with dL3 ?_
  refine j_aload_n rfl rfl ?_
  refine j_arg rfl rfl rfl rfl rfl (by omega) (by omega) hL ?_
  refine j_arg rfl rfl rfl rfl rfl (by omega) (by omega) hL ?_
  refine j_arg rfl rfl rfl rfl rfl (by omega) (by omega) hL ?_
  refine j_callV (ci := 11) rfl okX11_bits c_L_27 (ag_bits h (ox1 _) (ox2 _) (ox1 _) (ox2 _) (ox1 _) (ox2 _)) rfl rfl (h.s.lt (by decide)) (h.s.k (by decide) (by decide)) (by decide) rfl (Nat.le_of_ble_eq_true rfl) (by decide) ⟨by show _ ≤ 600000; omega, by show _ ≤ 7302250; omega⟩ ?_
  rintro v m1 ⟨⟨t, a⟩, rfl, ht, hS, hM⟩
  have ht : t = 0 := ht
  subst ht
  simp only [Option.toList_some, List.cons_append, List.nil_append]
  refine j_aload_n rfl rfl ?_
  refine j_arg rfl rfl rfl rfl rfl (by omega) (by omega) hL ?_
  refine j_arg rfl rfl rfl rfl rfl (by omega) (by omega) hL ?_
  refine j_arg rfl rfl rfl rfl rfl (by omega) (by omega) hL ?_
  refine j_callV (ci := 12) rfl okX12_bits c_L_31 hM rfl rfl (hS.lt (by decide)) (hS.k (by decide) (by decide)) (by decide) rfl (Nat.le_of_ble_eq_true rfl) (by decide) ⟨by show _ ≤ 600000; omega, by show _ ≤ 7302250; omega⟩ ?_
  rintro v2 m2 ⟨rfl, hI⟩
  simp only [Option.toList_some, List.cons_append, List.nil_append]
  refine j_icmp_same (tgt := 1786) rfl (by decide) ?_
  exact j_with dLH (kk _ _ _ hI (by omega) (by omega))
/-- wire -/
def iL4 : List (Nat × Instr × Nat) := [(334, .aload_n 1, 1), (335, .aload_n 0, 1), (336, .iload_n 3, 1), (337, .iconst 1, 1), (338, .iadd, 1), (339, .iaload, 1), (340, .aload_n 0, 1), (341, .iload_n 3, 1), (342, .iconst 2, 1), (343, .iadd, 1), (344, .iaload, 1), (345, .aload_n 0, 1), (346, .iload_n 3, 1), (347, .iconst 3, 1), (348, .iadd, 1), (349, .iaload, 1), (350, .aload_n 0, 1), (351, .iload_n 3, 1), (352, .iconst 4, 1), (353, .iadd, 1), (354, .iaload, 1), (355, .invokevirtual 32, 3), (358, .aload_n 2, 1), (359, .aload_n 0, 1), (360, .iload_n 3, 1), (361, .iconst 1, 1), (362, .iadd, 1), (363, .iaload, 1), (364, .aload_n 0, 1), (365, .iload_n 3, 1), (366, .iconst 2, 1), (367, .iadd, 1), (368, .iaload, 1), (369, .aload_n 0, 1), (370, .iload_n 3, 1), (371, .iconst 3, 1), (372, .iadd, 1), (373, .iaload, 1), (374, .aload_n 0, 1), (375, .iload_n 3, 1), (376, .iconst 4, 1), (377, .iadd, 1), (378, .iaload, 1), (379, .invokevirtual 36, 3), (382, .if_icmp .eq 1404, 3), (385, .iconst 0, 1), (386, .ireturn, 1)]
theorem dL4 : qDec (mLw iL4) := (by decide +kernel : ∀ q ∈ iL4, decode code q.1 = .ok q.2)
set_option maxRecDepth 20000 in
set_option maxHeartbeats 4000000 in
theorem lc_4 {G : QW} (hT : TB G) (hL : G.oL 0 ≤ 3072) {i : Int} (hi : 0 ≤ i) (hj : i + 6 ≤ (G.oL 0 : Int)) {m : AM} (h : Inv m) {cc cs : Nat} (hc : cc ≤ 10000) (hs : cs ≤ 1000000) (kk : ∀ (m2 : AM) (c2 s2 : Nat), Inv m2 → c2 ≤ cc + 9 → s2 ≤ cs + 235 → qJ G (mLw iLH) room_1 (LF G) 1786 (lawL i) [] m2 c2 s2) : qJ G (mLw iLH) room_1 (LF G) 334 (lawL i) [] m cc cs := by
  refine j_with dL4 ?_
  refine j_aload_n rfl rfl ?_
  refine j_arg rfl rfl rfl rfl rfl (by omega) (by omega) hL ?_
  refine j_arg rfl rfl rfl rfl rfl (by omega) (by omega) hL ?_
  refine j_arg rfl rfl rfl rfl rfl (by omega) (by omega) hL ?_
  refine j_arg rfl rfl rfl rfl rfl (by omega) (by omega) hL ?_
  refine j_callV (ci := 11) rfl okX11_wire c_L_32 (ag_wire h (ox1 _) (ox2 _) (ox1 _) (ox2 _) (ox1 _) (ox2 _) (ox1 _) (ox2 _)) rfl rfl (h.s.lt (by decide)) (h.s.k (by decide) (by decide)) (by decide) rfl (Nat.le_of_ble_eq_true rfl) (by decide) ⟨by show _ ≤ 600000; omega, by show _ ≤ 7302250; omega⟩ ?_
  rintro v m1 ⟨⟨t, a⟩, rfl, ht, hS, hM⟩
  have ht : t = 0 := ht
  subst ht
  simp only [Option.toList_some, List.cons_append, List.nil_append]
  refine j_aload_n rfl rfl ?_
  refine j_arg rfl rfl rfl rfl rfl (by omega) (by omega) hL ?_
  refine j_arg rfl rfl rfl rfl rfl (by omega) (by omega) hL ?_
  refine j_arg rfl rfl rfl rfl rfl (by omega) (by omega) hL ?_
  refine j_arg rfl rfl rfl rfl rfl (by omega) (by omega) hL ?_
  refine j_callV (ci := 12) rfl okX12_wire c_L_36 hM rfl rfl (hS.lt (by decide)) (hS.k (by decide) (by decide)) (by decide) rfl (Nat.le_of_ble_eq_true rfl) (by decide) ⟨by show _ ≤ 600000; omega, by show _ ≤ 7302250; omega⟩ ?_
  rintro v2 m2 ⟨rfl, hI⟩
  simp only [Option.toList_some, List.cons_append, List.nil_append]
  refine j_icmp_same (tgt := 1786) rfl (by decide) ?_
  exact j_with dLH (kk _ _ _ hI (by omega) (by omega))
/-- line -/
def iL5 : List (Nat × Instr × Nat) := [(387, .aload_n 1, 1), (388, .aload_n 0, 1), (389, .iload_n 3, 1), (390, .iconst 1, 1), (391, .iadd, 1), (392, .iaload, 1), (393, .aload_n 0, 1), (394, .iload_n 3, 1), (395, .iconst 2, 1), (396, .iadd, 1), (397, .iaload, 1), (398, .aload_n 0, 1), (399, .iload_n 3, 1), (400, .iconst 3, 1), (401, .iadd, 1), (402, .iaload, 1), (403, .invokevirtual 37, 3), (406, .aload_n 2, 1), (407, .aload_n 0, 1), (408, .iload_n 3, 1), (409, .iconst 1, 1), (410, .iadd, 1), (411, .iaload, 1), (412, .aload_n 0, 1), (413, .iload_n 3, 1), (414, .iconst 2, 1), (415, .iadd, 1), (416, .iaload, 1), (417, .aload_n 0, 1), (418, .iload_n 3, 1), (419, .iconst 3, 1), (420, .iadd, 1), (421, .iaload, 1), (422, .invokevirtual 40, 3), (425, .if_icmp .eq 1361, 3), (428, .iconst 0, 1), (429, .ireturn, 1)]
theorem dL5 : qDec (mLw iL5) := (by decide +kernel : ∀ q ∈ iL5, decode code q.1 = .ok q.2)
set_option maxRecDepth 20000 in
set_option maxHeartbeats 4000000 in
theorem lc_5 {G : QW} (hT : TB G) (hL : G.oL 0 ≤ 3072) {i : Int} (hi : 0 ≤ i) (hj : i + 6 ≤ (G.oL 0 : Int)) {m : AM} (h : Inv m) {cc cs : Nat} (hc : cc ≤ 10000) (hs : cs ≤ 1000000) (kk : ∀ (m2 : AM) (c2 s2 : Nat), Inv m2 → c2 ≤ cc + 9 → s2 ≤ cs + 235 → qJ G (mLw iLH) room_1 (LF G) 1786 (lawL i) [] m2 c2 s2) : qJ G (mLw iLH) room_1 (LF G) 387 (lawL i) [] m cc cs := by
  refine j_with dL5 ?_
  refine j_aload_n rfl rfl ?_
  refine j_arg rfl rfl rfl rfl rfl (by omega) (by omega) hL ?_
  refine j_arg rfl rfl rfl rfl rfl (by omega) (by omega) hL ?_
  refine j_arg rfl rfl rfl rfl rfl (by omega) (by omega) hL ?_
  refine j_callV (ci := 11) rfl okX11_line c_L_37 (ag_line h (ox1 _) (ox2 _) (ox1 _) (ox2 _) (ox1 _) (ox2 _)) rfl rfl (h.s.lt (by decide)) (h.s.k (by decide) (by decide)) (by decide) rfl (Nat.le_of_ble_eq_true rfl) (by decide) ⟨by show _ ≤ 600000; omega, by show _ ≤ 7302250; omega⟩ ?_
  rintro v m1 ⟨⟨t, a⟩, rfl, ht, hS, hM⟩
  have ht : t = 0 := ht
  subst ht
  simp only [Option.toList_some, List.cons_append, List.nil_append]
  refine j_aload_n rfl rfl ?_
  refine j_arg rfl rfl rfl rfl rfl (by omega) (by omega) hL ?_
  refine j_arg rfl rfl rfl rfl rfl (by omega) (by omega) hL ?_
  refine j_arg rfl rfl rfl rfl rfl (by omega) (by omega) hL ?_
  refine j_callV (ci := 12) rfl okX12_line c_L_40 hM rfl rfl (hS.lt (by decide)) (hS.k (by decide) (by decide)) (by decide) rfl (Nat.le_of_ble_eq_true rfl) (by decide) ⟨by show _ ≤ 600000; omega, by show _ ≤ 7302250; omega⟩ ?_
  rintro v2 m2 ⟨rfl, hI⟩
  simp only [Option.toList_some, List.cons_append, List.nil_append]
  refine j_icmp_same (tgt := 1786) rfl (by decide) ?_
  exact j_with dLH (kk _ _ _ hI (by omega) (by omega))
/-- watch -/
def iL6 : List (Nat × Instr × Nat) := [(430, .aload_n 1, 1), (431, .aload_n 0, 1), (432, .iload_n 3, 1), (433, .iconst 1, 1), (434, .iadd, 1), (435, .iaload, 1), (436, .aload_n 0, 1), (437, .iload_n 3, 1), (438, .iconst 2, 1), (439, .iadd, 1), (440, .iaload, 1), (441, .aload_n 0, 1), (442, .iload_n 3, 1), (443, .iconst 3, 1), (444, .iadd, 1), (445, .iaload, 1), (446, .invokevirtual 41, 3), (449, .aload_n 2, 1), (450, .aload_n 0, 1), (451, .iload_n 3, 1), (452, .iconst 1, 1), (453, .iadd, 1), (454, .iaload, 1), (455, .aload_n 0, 1), (456, .iload_n 3, 1), (457, .iconst 2, 1), (458, .iadd, 1), (459, .iaload, 1), (460, .aload_n 0, 1), (461, .iload_n 3, 1), (462, .iconst 3, 1), (463, .iadd, 1), (464, .iaload, 1), (465, .invokevirtual 44, 3), (468, .if_icmp .eq 1318, 3), (471, .iconst 0, 1), (472, .ireturn, 1)]
theorem dL6 : qDec (mLw iL6) := (by decide +kernel : ∀ q ∈ iL6, decode code q.1 = .ok q.2)
set_option maxRecDepth 20000 in
set_option maxHeartbeats 4000000 in
theorem lc_6 {G : QW} (hT : TB G) (hL : G.oL 0 ≤ 3072) {i : Int} (hi : 0 ≤ i) (hj : i + 6 ≤ (G.oL 0 : Int)) {m : AM} (h : Inv m) {cc cs : Nat} (hc : cc ≤ 10000) (hs : cs ≤ 1000000) (kk : ∀ (m2 : AM) (c2 s2 : Nat), Inv m2 → c2 ≤ cc + 9 → s2 ≤ cs + 235 → qJ G (mLw iLH) room_1 (LF G) 1786 (lawL i) [] m2 c2 s2) : qJ G (mLw iLH) room_1 (LF G) 430 (lawL i) [] m cc cs := by
  refine j_with dL6 ?_
  refine j_aload_n rfl rfl ?_
  refine j_arg rfl rfl rfl rfl rfl (by omega) (by omega) hL ?_
  refine j_arg rfl rfl rfl rfl rfl (by omega) (by omega) hL ?_
  refine j_arg rfl rfl rfl rfl rfl (by omega) (by omega) hL ?_
  refine j_callV (ci := 11) rfl okX11_watch c_L_41 (ag_watch h (ox1 _) (ox2 _) (ox1 _) (ox2 _) (ox1 _) (ox2 _)) rfl rfl (h.s.lt (by decide)) (h.s.k (by decide) (by decide)) (by decide) rfl (Nat.le_of_ble_eq_true rfl) (by decide) ⟨by show _ ≤ 600000; omega, by show _ ≤ 7302250; omega⟩ ?_
  rintro v m1 ⟨⟨t, a⟩, rfl, ht, hS, hM⟩
  have ht : t = 0 := ht
  subst ht
  simp only [Option.toList_some, List.cons_append, List.nil_append]
  refine j_aload_n rfl rfl ?_
  refine j_arg rfl rfl rfl rfl rfl (by omega) (by omega) hL ?_
  refine j_arg rfl rfl rfl rfl rfl (by omega) (by omega) hL ?_
  refine j_arg rfl rfl rfl rfl rfl (by omega) (by omega) hL ?_
  refine j_callV (ci := 12) rfl okX12_watch c_L_44 hM rfl rfl (hS.lt (by decide)) (hS.k (by decide) (by decide)) (by decide) rfl (Nat.le_of_ble_eq_true rfl) (by decide) ⟨by show _ ≤ 600000; omega, by show _ ≤ 7302250; omega⟩ ?_
  rintro v2 m2 ⟨rfl, hI⟩
  simp only [Option.toList_some, List.cons_append, List.nil_append]
  refine j_icmp_same (tgt := 1786) rfl (by decide) ?_
  exact j_with dLH (kk _ _ _ hI (by omega) (by omega))
/-- flight -/
def iL7 : List (Nat × Instr × Nat) := [(473, .aload_n 1, 1), (474, .invokevirtual 45, 3), (477, .aload_n 2, 1), (478, .invokevirtual 49, 3), (481, .if_icmp .eq 1305, 3), (484, .iconst 0, 1), (485, .ireturn, 1)]
theorem dL7 : qDec (mLw iL7) := (by decide +kernel : ∀ q ∈ iL7, decode code q.1 = .ok q.2)
set_option maxRecDepth 20000 in
set_option maxHeartbeats 4000000 in
theorem lc_7 {G : QW} (hT : TB G) (hL : G.oL 0 ≤ 3072) {i : Int} (hi : 0 ≤ i) (hj : i + 6 ≤ (G.oL 0 : Int)) {m : AM} (h : Inv m) {cc cs : Nat} (hc : cc ≤ 10000) (hs : cs ≤ 1000000) (kk : ∀ (m2 : AM) (c2 s2 : Nat), Inv m2 → c2 ≤ cc + 9 → s2 ≤ cs + 235 → qJ G (mLw iLH) room_1 (LF G) 1786 (lawL i) [] m2 c2 s2) : qJ G (mLw iLH) room_1 (LF G) 473 (lawL i) [] m cc cs := by
  refine j_with dL7 ?_
  by_cases hg : mi m 0 17 < 8
  · refine j_aload_n rfl rfl ?_
    refine j_callV (ci := 11) rfl okX11_flight c_L_45 (ag_flight1 h hg) rfl rfl (h.s.lt (by decide)) (h.s.k (by decide) (by decide)) (by decide) rfl (Nat.le_of_ble_eq_true rfl) (by decide) ⟨by show _ ≤ 600000; omega, by show _ ≤ 7302250; omega⟩ ?_
    rintro v m1 ⟨⟨t, a⟩, rfl, ht, hS, hM⟩
    have ht : t = 0 := ht
    subst ht
    simp only [Option.toList_some, List.cons_append, List.nil_append]
    refine j_aload_n rfl rfl ?_
    refine j_callV (ci := 12) rfl okX12_flight c_L_49 hM rfl rfl (hS.lt (by decide)) (hS.k (by decide) (by decide)) (by decide) rfl (Nat.le_of_ble_eq_true rfl) (by decide) ⟨by show _ ≤ 600000; omega, by show _ ≤ 7302250; omega⟩ ?_
    rintro v2 m2 ⟨rfl, hI⟩
    simp only [Option.toList_some, List.cons_append, List.nil_append]
    refine j_icmp_same (tgt := 1786) rfl (by decide) ?_
    exact j_with dLH (kk _ _ _ hI (by omega) (by omega))
  · refine j_aload_n rfl rfl ?_
    refine j_callV (ci := 11) rfl okX11_flight c_L_45 (ag_flight0 h hg) rfl rfl (h.s.lt (by decide)) (h.s.k (by decide) (by decide)) (by decide) rfl (Nat.le_of_ble_eq_true rfl) (by decide) ⟨by show _ ≤ 600000; omega, by show _ ≤ 7302250; omega⟩ ?_
    rintro v m1 ⟨⟨t, a⟩, rfl, ht, hS, hM⟩
    have ht : t = 0 := ht
    subst ht
    simp only [Option.toList_some, List.cons_append, List.nil_append]
    refine j_aload_n rfl rfl ?_
    refine j_callV (ci := 12) rfl okX12_flight c_L_49 hM rfl rfl (hS.lt (by decide)) (hS.k (by decide) (by decide)) (by decide) rfl (Nat.le_of_ble_eq_true rfl) (by decide) ⟨by show _ ≤ 600000; omega, by show _ ≤ 7302250; omega⟩ ?_
    rintro v2 m2 ⟨rfl, hI⟩
    simp only [Option.toList_some, List.cons_append, List.nil_append]
    refine j_icmp_same (tgt := 1786) rfl (by decide) ?_
    exact j_with dLH (kk _ _ _ hI (by omega) (by omega))
/-- felt -/
def iL8 : List (Nat × Instr × Nat) := [(486, .aload_n 1, 1), (487, .aload_n 0, 1), (488, .iload_n 3, 1), (489, .iconst 1, 1), (490, .iadd, 1), (491, .iaload, 1), (492, .aload_n 0, 1), (493, .iload_n 3, 1), (494, .iconst 2, 1), (495, .iadd, 1), (496, .iaload, 1), (497, .aload_n 0, 1), (498, .iload_n 3, 1), (499, .iconst 3, 1), (500, .iadd, 1), (501, .iaload, 1), (502, .aload_n 0, 1), (503, .iload_n 3, 1), (504, .iconst 4, 1), (505, .iadd, 1), (506, .iaload, 1), (507, .invokevirtual 50, 3), (510, .aload_n 2, 1), (511, .aload_n 0, 1), (512, .iload_n 3, 1), (513, .iconst 1, 1), (514, .iadd, 1), (515, .iaload, 1), (516, .aload_n 0, 1), (517, .iload_n 3, 1), (518, .iconst 2, 1), (519, .iadd, 1), (520, .iaload, 1), (521, .aload_n 0, 1), (522, .iload_n 3, 1), (523, .iconst 3, 1), (524, .iadd, 1), (525, .iaload, 1), (526, .aload_n 0, 1), (527, .iload_n 3, 1), (528, .iconst 4, 1), (529, .iadd, 1), (530, .iaload, 1), (531, .invokevirtual 53, 3), (534, .if_icmp .eq 1252, 3), (537, .iconst 0, 1), (538, .ireturn, 1)]
theorem dL8 : qDec (mLw iL8) := (by decide +kernel : ∀ q ∈ iL8, decode code q.1 = .ok q.2)
set_option maxRecDepth 20000 in
set_option maxHeartbeats 4000000 in
theorem lc_8 {G : QW} (hT : TB G) (hL : G.oL 0 ≤ 3072) {i : Int} (hi : 0 ≤ i) (hj : i + 6 ≤ (G.oL 0 : Int)) {m : AM} (h : Inv m) {cc cs : Nat} (hc : cc ≤ 10000) (hs : cs ≤ 1000000) (kk : ∀ (m2 : AM) (c2 s2 : Nat), Inv m2 → c2 ≤ cc + 9 → s2 ≤ cs + 235 → qJ G (mLw iLH) room_1 (LF G) 1786 (lawL i) [] m2 c2 s2) : qJ G (mLw iLH) room_1 (LF G) 486 (lawL i) [] m cc cs := by
  refine j_with dL8 ?_
  refine j_aload_n rfl rfl ?_
  refine j_arg rfl rfl rfl rfl rfl (by omega) (by omega) hL ?_
  refine j_arg rfl rfl rfl rfl rfl (by omega) (by omega) hL ?_
  refine j_arg rfl rfl rfl rfl rfl (by omega) (by omega) hL ?_
  refine j_arg rfl rfl rfl rfl rfl (by omega) (by omega) hL ?_
  refine j_callV (ci := 11) rfl okX11_felt c_L_50 (ag_felt h (ox1 _) (ox2 _) (ox1 _) (ox2 _) (ox1 _) (ox2 _) (ox1 _) (ox2 _)) rfl rfl (h.s.lt (by decide)) (h.s.k (by decide) (by decide)) (by decide) rfl (Nat.le_of_ble_eq_true rfl) (by decide) ⟨by show _ ≤ 600000; omega, by show _ ≤ 7302250; omega⟩ ?_
  rintro v m1 ⟨⟨t, a⟩, rfl, ht, hS, hM⟩
  have ht : t = 0 := ht
  subst ht
  simp only [Option.toList_some, List.cons_append, List.nil_append]
  refine j_aload_n rfl rfl ?_
  refine j_arg rfl rfl rfl rfl rfl (by omega) (by omega) hL ?_
  refine j_arg rfl rfl rfl rfl rfl (by omega) (by omega) hL ?_
  refine j_arg rfl rfl rfl rfl rfl (by omega) (by omega) hL ?_
  refine j_arg rfl rfl rfl rfl rfl (by omega) (by omega) hL ?_
  refine j_callV (ci := 12) rfl okX12_felt c_L_53 hM rfl rfl (hS.lt (by decide)) (hS.k (by decide) (by decide)) (by decide) rfl (Nat.le_of_ble_eq_true rfl) (by decide) ⟨by show _ ≤ 600000; omega, by show _ ≤ 7302250; omega⟩ ?_
  rintro v2 m2 ⟨rfl, hI⟩
  simp only [Option.toList_some, List.cons_append, List.nil_append]
  refine j_icmp_same (tgt := 1786) rfl (by decide) ?_
  exact j_with dLH (kk _ _ _ hI (by omega) (by omega))
/-- feltRow -/
def iL9 : List (Nat × Instr × Nat) := [(539, .aload_n 1, 1), (540, .aload_n 0, 1), (541, .iload_n 3, 1), (542, .iconst 1, 1), (543, .iadd, 1), (544, .iaload, 1), (545, .aload_n 0, 1), (546, .iload_n 3, 1), (547, .iconst 2, 1), (548, .iadd, 1), (549, .iaload, 1), (550, .aload_n 0, 1), (551, .iload_n 3, 1), (552, .iconst 3, 1), (553, .iadd, 1), (554, .iaload, 1), (555, .invokevirtual 54, 3), (558, .aload_n 2, 1), (559, .aload_n 0, 1), (560, .iload_n 3, 1), (561, .iconst 1, 1), (562, .iadd, 1), (563, .iaload, 1), (564, .aload_n 0, 1), (565, .iload_n 3, 1), (566, .iconst 2, 1), (567, .iadd, 1), (568, .iaload, 1), (569, .aload_n 0, 1), (570, .iload_n 3, 1), (571, .iconst 3, 1), (572, .iadd, 1), (573, .iaload, 1), (574, .invokevirtual 57, 3), (577, .if_icmp .eq 1209, 3), (580, .iconst 0, 1), (581, .ireturn, 1)]
theorem dL9 : qDec (mLw iL9) := (by decide +kernel : ∀ q ∈ iL9, decode code q.1 = .ok q.2)
set_option maxRecDepth 20000 in
set_option maxHeartbeats 4000000 in
theorem lc_9 {G : QW} (hT : TB G) (hL : G.oL 0 ≤ 3072) {i : Int} (hi : 0 ≤ i) (hj : i + 6 ≤ (G.oL 0 : Int)) {m : AM} (h : Inv m) {cc cs : Nat} (hc : cc ≤ 10000) (hs : cs ≤ 1000000) (kk : ∀ (m2 : AM) (c2 s2 : Nat), Inv m2 → c2 ≤ cc + 9 → s2 ≤ cs + 235 → qJ G (mLw iLH) room_1 (LF G) 1786 (lawL i) [] m2 c2 s2) : qJ G (mLw iLH) room_1 (LF G) 539 (lawL i) [] m cc cs := by
  refine j_with dL9 ?_
  refine j_aload_n rfl rfl ?_
  refine j_arg rfl rfl rfl rfl rfl (by omega) (by omega) hL ?_
  refine j_arg rfl rfl rfl rfl rfl (by omega) (by omega) hL ?_
  refine j_arg rfl rfl rfl rfl rfl (by omega) (by omega) hL ?_
  refine j_callV (ci := 11) rfl okX11_feltRow c_L_54 (ag_feltRow h (ox1 _) (ox2 _) (ox1 _) (ox2 _) (ox1 _) (ox2 _)) rfl rfl (h.s.lt (by decide)) (h.s.k (by decide) (by decide)) (by decide) rfl (Nat.le_of_ble_eq_true rfl) (by decide) ⟨by show _ ≤ 600000; omega, by show _ ≤ 7302250; omega⟩ ?_
  rintro v m1 ⟨⟨t, a⟩, rfl, ht, hS, hM⟩
  have ht : t = 0 := ht
  subst ht
  simp only [Option.toList_some, List.cons_append, List.nil_append]
  refine j_aload_n rfl rfl ?_
  refine j_arg rfl rfl rfl rfl rfl (by omega) (by omega) hL ?_
  refine j_arg rfl rfl rfl rfl rfl (by omega) (by omega) hL ?_
  refine j_arg rfl rfl rfl rfl rfl (by omega) (by omega) hL ?_
  refine j_callV (ci := 12) rfl okX12_feltRow c_L_57 hM rfl rfl (hS.lt (by decide)) (hS.k (by decide) (by decide)) (by decide) rfl (Nat.le_of_ble_eq_true rfl) (by decide) ⟨by show _ ≤ 600000; omega, by show _ ≤ 7302250; omega⟩ ?_
  rintro v2 m2 ⟨rfl, hI⟩
  simp only [Option.toList_some, List.cons_append, List.nil_append]
  refine j_icmp_same (tgt := 1786) rfl (by decide) ?_
  exact j_with dLH (kk _ _ _ hI (by omega) (by omega))
/-- feels -/
def iL10 : List (Nat × Instr × Nat) := [(582, .aload_n 1, 1), (583, .aload_n 0, 1), (584, .iload_n 3, 1), (585, .iconst 1, 1), (586, .iadd, 1), (587, .iaload, 1), (588, .aload_n 0, 1), (589, .iload_n 3, 1), (590, .iconst 2, 1), (591, .iadd, 1), (592, .iaload, 1), (593, .invokevirtual 58, 3), (596, .aload_n 2, 1), (597, .aload_n 0, 1), (598, .iload_n 3, 1), (599, .iconst 1, 1), (600, .iadd, 1), (601, .iaload, 1), (602, .aload_n 0, 1), (603, .iload_n 3, 1), (604, .iconst 2, 1), (605, .iadd, 1), (606, .iaload, 1), (607, .invokevirtual 61, 3), (610, .if_icmp .eq 1176, 3), (613, .iconst 0, 1), (614, .ireturn, 1)]
theorem dL10 : qDec (mLw iL10) := (by decide +kernel : ∀ q ∈ iL10, decode code q.1 = .ok q.2)
set_option maxRecDepth 20000 in
set_option maxHeartbeats 4000000 in
theorem lc_10 {G : QW} (hT : TB G) (hL : G.oL 0 ≤ 3072) {i : Int} (hi : 0 ≤ i) (hj : i + 6 ≤ (G.oL 0 : Int)) {m : AM} (h : Inv m) {cc cs : Nat} (hc : cc ≤ 10000) (hs : cs ≤ 1000000) (kk : ∀ (m2 : AM) (c2 s2 : Nat), Inv m2 → c2 ≤ cc + 9 → s2 ≤ cs + 235 → qJ G (mLw iLH) room_1 (LF G) 1786 (lawL i) [] m2 c2 s2) : qJ G (mLw iLH) room_1 (LF G) 582 (lawL i) [] m cc cs := by
  refine j_with dL10 ?_
  refine j_aload_n rfl rfl ?_
  refine j_arg rfl rfl rfl rfl rfl (by omega) (by omega) hL ?_
  refine j_arg rfl rfl rfl rfl rfl (by omega) (by omega) hL ?_
  refine j_callV (ci := 11) rfl okX11_feels c_L_58 (ag_feels h (ox1 _) (ox2 _) (ox1 _) (ox2 _)) rfl rfl (h.s.lt (by decide)) (h.s.k (by decide) (by decide)) (by decide) rfl (Nat.le_of_ble_eq_true rfl) (by decide) ⟨by show _ ≤ 600000; omega, by show _ ≤ 7302250; omega⟩ ?_
  rintro v m1 ⟨⟨t, a⟩, rfl, ht, hS, hM⟩
  have ht : t = 0 := ht
  subst ht
  simp only [Option.toList_some, List.cons_append, List.nil_append]
  refine j_aload_n rfl rfl ?_
  refine j_arg rfl rfl rfl rfl rfl (by omega) (by omega) hL ?_
  refine j_arg rfl rfl rfl rfl rfl (by omega) (by omega) hL ?_
  refine j_callV (ci := 12) rfl okX12_feels c_L_61 hM rfl rfl (hS.lt (by decide)) (hS.k (by decide) (by decide)) (by decide) rfl (Nat.le_of_ble_eq_true rfl) (by decide) ⟨by show _ ≤ 600000; omega, by show _ ≤ 7302250; omega⟩ ?_
  rintro v2 m2 ⟨rfl, hI⟩
  simp only [Option.toList_some, List.cons_append, List.nil_append]
  refine j_icmp_same (tgt := 1786) rfl (by decide) ?_
  exact j_with dLH (kk _ _ _ hI (by omega) (by omega))

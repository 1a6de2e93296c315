/-! the law: its cases, on -/
/-- twin -/
def iL21 : List (Nat × Instr × Nat) := [(985, .aload_n 1, 1), (986, .aload_n 0, 1), (987, .iload_n 3, 1), (988, .iconst 1, 1), (989, .iadd, 1), (990, .iaload, 1), (991, .aload_n 0, 1), (992, .iload_n 3, 1), (993, .iconst 2, 1), (994, .iadd, 1), (995, .iaload, 1), (996, .invokevirtual 102, 3), (999, .aload_n 2, 1), (1000, .aload_n 0, 1), (1001, .iload_n 3, 1), (1002, .iconst 1, 1), (1003, .iadd, 1), (1004, .iaload, 1), (1005, .aload_n 0, 1), (1006, .iload_n 3, 1), (1007, .iconst 2, 1), (1008, .iadd, 1), (1009, .iaload, 1), (1010, .invokevirtual 105, 3), (1013, .if_icmp .eq 773, 3), (1016, .iconst 0, 1), (1017, .ireturn, 1)]
theorem dL21 : qDec (mLw iL21) := (by decide +kernel : ∀ q ∈ iL21, decode code q.1 = .ok q.2)
set_option maxRecDepth 20000 in
set_option maxHeartbeats 4000000 in
theorem lc_21 {G : QW} (hT : TB G) (hL : G.oL 0 ≤ 3072) {i : Int} (hi : 0 ≤ i) (hj : i + 6 ≤ (G.oL 0 : Int)) {m : AM} (h : Inv m) {cc cs : Nat} (hc : cc ≤ 10000) (hs : cs ≤ 1000000) (kk : ∀ (m2 : AM) (c2 s2 : Nat), Inv m2 → c2 ≤ cc + 9 → s2 ≤ cs + 235 → qJ G (mLw iLH) room_1 (LF G) 1786 (lawL i) [] m2 c2 s2) : qJ G (mLw iLH) room_1 (LF G) 985 (lawL i) [] m cc cs := by
  refine j_with dL21 ?_
  refine j_aload_n rfl rfl ?_
  refine j_arg rfl rfl rfl rfl rfl (by omega) (by omega) hL ?_
  refine j_arg rfl rfl rfl rfl rfl (by omega) (by omega) hL ?_
  refine j_callV (ci := 11) rfl okX11_twin c_L_102 (ag_twin h (ox1 _) (ox2 _) (ox1 _) (ox2 _)) rfl rfl (h.s.lt (by decide)) (h.s.k (by decide) (by decide)) (by decide) rfl (Nat.le_of_ble_eq_true rfl) (by decide) ⟨by show _ ≤ 600000; omega, by show _ ≤ 7302250; omega⟩ ?_
  rintro v m1 ⟨⟨t, a⟩, rfl, ht, hS, hM⟩
  have ht : t = 0 := ht
  subst ht
  simp only [Option.toList_some, List.cons_append, List.nil_append]
  refine j_aload_n rfl rfl ?_
  refine j_arg rfl rfl rfl rfl rfl (by omega) (by omega) hL ?_
  refine j_arg rfl rfl rfl rfl rfl (by omega) (by omega) hL ?_
  refine j_callV (ci := 12) rfl okX12_twin c_L_105 hM rfl rfl (hS.lt (by decide)) (hS.k (by decide) (by decide)) (by decide) rfl (Nat.le_of_ble_eq_true rfl) (by decide) ⟨by show _ ≤ 600000; omega, by show _ ≤ 7302250; omega⟩ ?_
  rintro v2 m2 ⟨rfl, hI⟩
  simp only [Option.toList_some, List.cons_append, List.nil_append]
  refine j_icmp_same (tgt := 1786) rfl (by decide) ?_
  exact j_with dLH (kk _ _ _ hI (by omega) (by omega))
/-- worth -/
def iL22 : List (Nat × Instr × Nat) := [(1018, .aload_n 1, 1), (1019, .aload_n 0, 1), (1020, .iload_n 3, 1), (1021, .iconst 1, 1), (1022, .iadd, 1), (1023, .iaload, 1), (1024, .aload_n 0, 1), (1025, .iload_n 3, 1), (1026, .iconst 2, 1), (1027, .iadd, 1), (1028, .iaload, 1), (1029, .aload_n 0, 1), (1030, .iload_n 3, 1), (1031, .iconst 3, 1), (1032, .iadd, 1), (1033, .iaload, 1), (1034, .invokevirtual 106, 3), (1037, .aload_n 2, 1), (1038, .aload_n 0, 1), (1039, .iload_n 3, 1), (1040, .iconst 1, 1), (1041, .iadd, 1), (1042, .iaload, 1), (1043, .aload_n 0, 1), (1044, .iload_n 3, 1), (1045, .iconst 2, 1), (1046, .iadd, 1), (1047, .iaload, 1), (1048, .aload_n 0, 1), (1049, .iload_n 3, 1), (1050, .iconst 3, 1), (1051, .iadd, 1), (1052, .iaload, 1), (1053, .invokevirtual 109, 3), (1056, .if_icmp .eq 730, 3), (1059, .iconst 0, 1), (1060, .ireturn, 1)]
theorem dL22 : qDec (mLw iL22) := (by decide +kernel : ∀ q ∈ iL22, decode code q.1 = .ok q.2)
set_option maxRecDepth 20000 in
set_option maxHeartbeats 4000000 in
theorem lc_22 {G : QW} (hT : TB G) (hL : G.oL 0 ≤ 3072) {i : Int} (hi : 0 ≤ i) (hj : i + 6 ≤ (G.oL 0 : Int)) {m : AM} (h : Inv m) {cc cs : Nat} (hc : cc ≤ 10000) (hs : cs ≤ 1000000) (kk : ∀ (m2 : AM) (c2 s2 : Nat), Inv m2 → c2 ≤ cc + 9 → s2 ≤ cs + 235 → qJ G (mLw iLH) room_1 (LF G) 1786 (lawL i) [] m2 c2 s2) : qJ G (mLw iLH) room_1 (LF G) 1018 (lawL i) [] m cc cs := by
  refine j_with dL22 ?_
  refine j_aload_n rfl rfl ?_
  refine j_arg rfl rfl rfl rfl rfl (by omega) (by omega) hL ?_
  refine j_arg rfl rfl rfl rfl rfl (by omega) (by omega) hL ?_
  refine j_arg rfl rfl rfl rfl rfl (by omega) (by omega) hL ?_
  refine j_callV (ci := 11) rfl okX11_worth c_L_106 (ag_worth h (ox1 _) (ox2 _) (ox1 _) (ox2 _) (ox1 _) (ox2 _)) rfl rfl (h.s.lt (by decide)) (h.s.k (by decide) (by decide)) (by decide) rfl (Nat.le_of_ble_eq_true rfl) (by decide) ⟨by show _ ≤ 600000; omega, by show _ ≤ 7302250; omega⟩ ?_
  rintro v m1 ⟨⟨t, a⟩, rfl, ht, hS, hM⟩
  have ht : t = 0 := ht
  subst ht
  simp only [Option.toList_some, List.cons_append, List.nil_append]
  refine j_aload_n rfl rfl ?_
  refine j_arg rfl rfl rfl rfl rfl (by omega) (by omega) hL ?_
  refine j_arg rfl rfl rfl rfl rfl (by omega) (by omega) hL ?_
  refine j_arg rfl rfl rfl rfl rfl (by omega) (by omega) hL ?_
  refine j_callV (ci := 12) rfl okX12_worth c_L_109 hM rfl rfl (hS.lt (by decide)) (hS.k (by decide) (by decide)) (by decide) rfl (Nat.le_of_ble_eq_true rfl) (by decide) ⟨by show _ ≤ 600000; omega, by show _ ≤ 7302250; omega⟩ ?_
  rintro v2 m2 ⟨rfl, hI⟩
  simp only [Option.toList_some, List.cons_append, List.nil_append]
  refine j_icmp_same (tgt := 1786) rfl (by decide) ?_
  exact j_with dLH (kk _ _ _ hI (by omega) (by omega))
/-- needed -/
def iL23 : List (Nat × Instr × Nat) := [(1061, .aload_n 1, 1), (1062, .aload_n 0, 1), (1063, .iload_n 3, 1), (1064, .iconst 1, 1), (1065, .iadd, 1), (1066, .iaload, 1), (1067, .aload_n 0, 1), (1068, .iload_n 3, 1), (1069, .iconst 2, 1), (1070, .iadd, 1), (1071, .iaload, 1), (1072, .aload_n 0, 1), (1073, .iload_n 3, 1), (1074, .iconst 3, 1), (1075, .iadd, 1), (1076, .iaload, 1), (1077, .invokevirtual 110, 3), (1080, .aload_n 2, 1), (1081, .aload_n 0, 1), (1082, .iload_n 3, 1), (1083, .iconst 1, 1), (1084, .iadd, 1), (1085, .iaload, 1), (1086, .aload_n 0, 1), (1087, .iload_n 3, 1), (1088, .iconst 2, 1), (1089, .iadd, 1), (1090, .iaload, 1), (1091, .aload_n 0, 1), (1092, .iload_n 3, 1), (1093, .iconst 3, 1), (1094, .iadd, 1), (1095, .iaload, 1), (1096, .invokevirtual 113, 3), (1099, .if_icmp .eq 687, 3), (1102, .iconst 0, 1), (1103, .ireturn, 1)]
theorem dL23 : qDec (mLw iL23) := (by decide +kernel : ∀ q ∈ iL23, decode code q.1 = .ok q.2)
set_option maxRecDepth 20000 in
set_option maxHeartbeats 4000000 in
theorem lc_23 {G : QW} (hT : TB G) (hL : G.oL 0 ≤ 3072) {i : Int} (hi : 0 ≤ i) (hj : i + 6 ≤ (G.oL 0 : Int)) {m : AM} (h : Inv m) {cc cs : Nat} (hc : cc ≤ 10000) (hs : cs ≤ 1000000) (kk : ∀ (m2 : AM) (c2 s2 : Nat), Inv m2 → c2 ≤ cc + 9 → s2 ≤ cs + 235 → qJ G (mLw iLH) room_1 (LF G) 1786 (lawL i) [] m2 c2 s2) : qJ G (mLw iLH) room_1 (LF G) 1061 (lawL i) [] m cc cs := by
  refine j_with dL23 ?_
  refine j_aload_n rfl rfl ?_
  refine j_arg rfl rfl rfl rfl rfl (by omega) (by omega) hL ?_
  refine j_arg rfl rfl rfl rfl rfl (by omega) (by omega) hL ?_
  refine j_arg rfl rfl rfl rfl rfl (by omega) (by omega) hL ?_
  refine j_callV (ci := 11) rfl okX11_needed c_L_110 (ag_needed h (ox1 _) (ox2 _) (ox1 _) (ox2 _) (ox1 _) (ox2 _)) rfl rfl (h.s.lt (by decide)) (h.s.k (by decide) (by decide)) (by decide) rfl (Nat.le_of_ble_eq_true rfl) (by decide) ⟨by show _ ≤ 600000; omega, by show _ ≤ 7302250; omega⟩ ?_
  rintro v m1 ⟨⟨t, a⟩, rfl, ht, hS, hM⟩
  have ht : t = 0 := ht
  subst ht
  simp only [Option.toList_some, List.cons_append, List.nil_append]
  refine j_aload_n rfl rfl ?_
  refine j_arg rfl rfl rfl rfl rfl (by omega) (by omega) hL ?_
  refine j_arg rfl rfl rfl rfl rfl (by omega) (by omega) hL ?_
  refine j_arg rfl rfl rfl rfl rfl (by omega) (by omega) hL ?_
  refine j_callV (ci := 12) rfl okX12_needed c_L_113 hM rfl rfl (hS.lt (by decide)) (hS.k (by decide) (by decide)) (by decide) rfl (Nat.le_of_ble_eq_true rfl) (by decide) ⟨by show _ ≤ 600000; omega, by show _ ≤ 7302250; omega⟩ ?_
  rintro v2 m2 ⟨rfl, hI⟩
  simp only [Option.toList_some, List.cons_append, List.nil_append]
  refine j_icmp_same (tgt := 1786) rfl (by decide) ?_
  exact j_with dLH (kk _ _ _ hI (by omega) (by omega))
/-- best -/
def iL24 : List (Nat × Instr × Nat) := [(1104, .aload_n 1, 1), (1105, .aload_n 0, 1), (1106, .iload_n 3, 1), (1107, .iconst 1, 1), (1108, .iadd, 1), (1109, .iaload, 1), (1110, .aload_n 0, 1), (1111, .iload_n 3, 1), (1112, .iconst 2, 1), (1113, .iadd, 1), (1114, .iaload, 1), (1115, .aload_n 0, 1), (1116, .iload_n 3, 1), (1117, .iconst 3, 1), (1118, .iadd, 1), (1119, .iaload, 1), (1120, .aload_n 0, 1), (1121, .iload_n 3, 1), (1122, .iconst 4, 1), (1123, .iadd, 1), (1124, .iaload, 1), (1125, .invokevirtual 114, 3), (1128, .aload_n 2, 1), (1129, .aload_n 0, 1), (1130, .iload_n 3, 1), (1131, .iconst 1, 1), (1132, .iadd, 1), (1133, .iaload, 1), (1134, .aload_n 0, 1), (1135, .iload_n 3, 1), (1136, .iconst 2, 1), (1137, .iadd, 1), (1138, .iaload, 1), (1139, .aload_n 0, 1), (1140, .iload_n 3, 1), (1141, .iconst 3, 1), (1142, .iadd, 1), (1143, .iaload, 1), (1144, .aload_n 0, 1), (1145, .iload_n 3, 1), (1146, .iconst 4, 1), (1147, .iadd, 1), (1148, .iaload, 1), (1149, .invokevirtual 117, 3), (1152, .if_icmp .eq 634, 3), (1155, .iconst 0, 1), (1156, .ireturn, 1)]
theorem dL24 : qDec (mLw iL24) := (by decide +kernel : ∀ q ∈ iL24, decode code q.1 = .ok q.2)
set_option maxRecDepth 20000 in
set_option maxHeartbeats 4000000 in
theorem lc_24 {G : QW} (hT : TB G) (hL : G.oL 0 ≤ 3072) {i : Int} (hi : 0 ≤ i) (hj : i + 6 ≤ (G.oL 0 : Int)) {m : AM} (h : Inv m) {cc cs : Nat} (hc : cc ≤ 10000) (hs : cs ≤ 1000000) (kk : ∀ (m2 : AM) (c2 s2 : Nat), Inv m2 → c2 ≤ cc + 9 → s2 ≤ cs + 235 → qJ G (mLw iLH) room_1 (LF G) 1786 (lawL i) [] m2 c2 s2) : qJ G (mLw iLH) room_1 (LF G) 1104 (lawL i) [] m cc cs := by
  refine j_with dL24 ?_
  refine j_aload_n rfl rfl ?_
  refine j_arg rfl rfl rfl rfl rfl (by omega) (by omega) hL ?_
  refine j_arg rfl rfl rfl rfl rfl (by omega) (by omega) hL ?_
  refine j_arg rfl rfl rfl rfl rfl (by omega) (by omega) hL ?_
  refine j_arg rfl rfl rfl rfl rfl (by omega) (by omega) hL ?_
  refine j_callV (ci := 11) rfl okX11_best c_L_114 (ag_best h (ox1 _) (ox2 _) (ox1 _) (ox2 _) (ox1 _) (ox2 _) (ox1 _) (ox2 _)) rfl rfl (h.s.lt (by decide)) (h.s.k (by decide) (by decide)) (by decide) rfl (Nat.le_of_ble_eq_true rfl) (by decide) ⟨by show _ ≤ 600000; omega, by show _ ≤ 7302250; omega⟩ ?_
  rintro v m1 ⟨⟨t, a⟩, rfl, ht, hS, hM⟩
  have ht : t = 0 := ht
  subst ht
  simp only [Option.toList_some, List.cons_append, List.nil_append]
  refine j_aload_n rfl rfl ?_
  refine j_arg rfl rfl rfl rfl rfl (by omega) (by omega) hL ?_
  refine j_arg rfl rfl rfl rfl rfl (by omega) (by omega) hL ?_
  refine j_arg rfl rfl rfl rfl rfl (by omega) (by omega) hL ?_
  refine j_arg rfl rfl rfl rfl rfl (by omega) (by omega) hL ?_
  refine j_callV (ci := 12) rfl okX12_best c_L_117 hM rfl rfl (hS.lt (by decide)) (hS.k (by decide) (by decide)) (by decide) rfl (Nat.le_of_ble_eq_true rfl) (by decide) ⟨by show _ ≤ 600000; omega, by show _ ≤ 7302250; omega⟩ ?_
  rintro v2 m2 ⟨rfl, hI⟩
  simp only [Option.toList_some, List.cons_append, List.nil_append]
  refine j_icmp_same (tgt := 1786) rfl (by decide) ?_
  exact j_with dLH (kk _ _ _ hI (by omega) (by omega))
/-- fewest -/
def iL25 : List (Nat × Instr × Nat) := [(1157, .aload_n 1, 1), (1158, .aload_n 0, 1), (1159, .iload_n 3, 1), (1160, .iconst 1, 1), (1161, .iadd, 1), (1162, .iaload, 1), (1163, .aload_n 0, 1), (1164, .iload_n 3, 1), (1165, .iconst 2, 1), (1166, .iadd, 1), (1167, .iaload, 1), (1168, .aload_n 0, 1), (1169, .iload_n 3, 1), (1170, .iconst 3, 1), (1171, .iadd, 1), (1172, .iaload, 1), (1173, .invokevirtual 118, 3), (1176, .aload_n 2, 1), (1177, .aload_n 0, 1), (1178, .iload_n 3, 1), (1179, .iconst 1, 1), (1180, .iadd, 1), (1181, .iaload, 1), (1182, .aload_n 0, 1), (1183, .iload_n 3, 1), (1184, .iconst 2, 1), (1185, .iadd, 1), (1186, .iaload, 1), (1187, .aload_n 0, 1), (1188, .iload_n 3, 1), (1189, .iconst 3, 1), (1190, .iadd, 1), (1191, .iaload, 1), (1192, .invokevirtual 121, 3), (1195, .if_icmp .eq 591, 3), (1198, .iconst 0, 1), (1199, .ireturn, 1)]
theorem dL25 : qDec (mLw iL25) := (by decide +kernel : ∀ q ∈ iL25, decode code q.1 = .ok q.2)
set_option maxRecDepth 20000 in
set_option maxHeartbeats 4000000 in
theorem lc_25 {G : QW} (hT : TB G) (hL : G.oL 0 ≤ 3072) {i : Int} (hi : 0 ≤ i) (hj : i + 6 ≤ (G.oL 0 : Int)) {m : AM} (h : Inv m) {cc cs : Nat} (hc : cc ≤ 10000) (hs : cs ≤ 1000000) (kk : ∀ (m2 : AM) (c2 s2 : Nat), Inv m2 → c2 ≤ cc + 9 → s2 ≤ cs + 235 → qJ G (mLw iLH) room_1 (LF G) 1786 (lawL i) [] m2 c2 s2) : qJ G (mLw iLH) room_1 (LF G) 1157 (lawL i) [] m cc cs := by
  refine j_with dL25 ?_
  refine j_aload_n rfl rfl ?_
  refine j_arg rfl rfl rfl rfl rfl (by omega) (by omega) hL ?_
  refine j_arg rfl rfl rfl rfl rfl (by omega) (by omega) hL ?_
  refine j_arg rfl rfl rfl rfl rfl (by omega) (by omega) hL ?_
  refine j_callV (ci := 11) rfl okX11_fewest c_L_118 (ag_fewest h (ox1 _) (ox2 _) (ox1 _) (ox2 _) (ox1 _) (ox2 _)) rfl rfl (h.s.lt (by decide)) (h.s.k (by decide) (by decide)) (by decide) rfl (Nat.le_of_ble_eq_true rfl) (by decide) ⟨by show _ ≤ 600000; omega, by show _ ≤ 7302250; omega⟩ ?_
  rintro v m1 ⟨⟨t, a⟩, rfl, ht, hS, hM⟩
  have ht : t = 0 := ht
  subst ht
  simp only [Option.toList_some, List.cons_append, List.nil_append]
  refine j_aload_n rfl rfl ?_
  refine j_arg rfl rfl rfl rfl rfl (by omega) (by omega) hL ?_
  refine j_arg rfl rfl rfl rfl rfl (by omega) (by omega) hL ?_
  refine j_arg rfl rfl rfl rfl rfl (by omega) (by omega) hL ?_
  refine j_callV (ci := 12) rfl okX12_fewest c_L_121 hM rfl rfl (hS.lt (by decide)) (hS.k (by decide) (by decide)) (by decide) rfl (Nat.le_of_ble_eq_true rfl) (by decide) ⟨by show _ ≤ 600000; omega, by show _ ≤ 7302250; omega⟩ ?_
  rintro v2 m2 ⟨rfl, hI⟩
  simp only [Option.toList_some, List.cons_append, List.nil_append]
  refine j_icmp_same (tgt := 1786) rfl (by decide) ?_
  exact j_with dLH (kk _ _ _ hI (by omega) (by omega))
/-- paper -/
def iL26 : List (Nat × Instr × Nat) := [(1200, .aload_n 1, 1), (1201, .aload_n 0, 1), (1202, .iload_n 3, 1), (1203, .iconst 1, 1), (1204, .iadd, 1), (1205, .iaload, 1), (1206, .aload_n 0, 1), (1207, .iload_n 3, 1), (1208, .iconst 2, 1), (1209, .iadd, 1), (1210, .iaload, 1), (1211, .aload_n 0, 1), (1212, .iload_n 3, 1), (1213, .iconst 3, 1), (1214, .iadd, 1), (1215, .iaload, 1), (1216, .aload_n 0, 1), (1217, .iload_n 3, 1), (1218, .iconst 4, 1), (1219, .iadd, 1), (1220, .iaload, 1), (1221, .invokevirtual 122, 3), (1224, .aload_n 2, 1), (1225, .aload_n 0, 1), (1226, .iload_n 3, 1), (1227, .iconst 1, 1), (1228, .iadd, 1), (1229, .iaload, 1), (1230, .aload_n 0, 1), (1231, .iload_n 3, 1), (1232, .iconst 2, 1), (1233, .iadd, 1), (1234, .iaload, 1), (1235, .aload_n 0, 1), (1236, .iload_n 3, 1), (1237, .iconst 3, 1), (1238, .iadd, 1), (1239, .iaload, 1), (1240, .aload_n 0, 1), (1241, .iload_n 3, 1), (1242, .iconst 4, 1), (1243, .iadd, 1), (1244, .iaload, 1), (1245, .invokevirtual 125, 3), (1248, .if_icmp .eq 538, 3), (1251, .iconst 0, 1), (1252, .ireturn, 1)]
theorem dL26 : qDec (mLw iL26) := (by decide +kernel : ∀ q ∈ iL26, decode code q.1 = .ok q.2)
set_option maxRecDepth 20000 in
set_option maxHeartbeats 4000000 in
theorem lc_26 {G : QW} (hT : TB G) (hL : G.oL 0 ≤ 3072) {i : Int} (hi : 0 ≤ i) (hj : i + 6 ≤ (G.oL 0 : Int)) {m : AM} (h : Inv m) {cc cs : Nat} (hc : cc ≤ 10000) (hs : cs ≤ 1000000) (kk : ∀ (m2 : AM) (c2 s2 : Nat), Inv m2 → c2 ≤ cc + 9 → s2 ≤ cs + 235 → qJ G (mLw iLH) room_1 (LF G) 1786 (lawL i) [] m2 c2 s2) : qJ G (mLw iLH) room_1 (LF G) 1200 (lawL i) [] m cc cs := by
  refine j_with dL26 ?_
  refine j_aload_n rfl rfl ?_
  refine j_arg rfl rfl rfl rfl rfl (by omega) (by omega) hL ?_
  refine j_arg rfl rfl rfl rfl rfl (by omega) (by omega) hL ?_
  refine j_arg rfl rfl rfl rfl rfl (by omega) (by omega) hL ?_
  refine j_arg rfl rfl rfl rfl rfl (by omega) (by omega) hL ?_
  refine j_callV (ci := 11) rfl okX11_paper c_L_122 (ag_paper h (ox1 _) (ox2 _) (ox1 _) (ox2 _) (ox1 _) (ox2 _) (ox1 _) (ox2 _)) rfl rfl (h.s.lt (by decide)) (h.s.k (by decide) (by decide)) (by decide) rfl (Nat.le_of_ble_eq_true rfl) (by decide) ⟨by show _ ≤ 600000; omega, by show _ ≤ 7302250; omega⟩ ?_
  rintro v m1 ⟨⟨t, a⟩, rfl, ht, hS, hM⟩
  have ht : t = 0 := ht
  subst ht
  simp only [Option.toList_some, List.cons_append, List.nil_append]
  refine j_aload_n rfl rfl ?_
  refine j_arg rfl rfl rfl rfl rfl (by omega) (by omega) hL ?_
  refine j_arg rfl rfl rfl rfl rfl (by omega) (by omega) hL ?_
  refine j_arg rfl rfl rfl rfl rfl (by omega) (by omega) hL ?_
  refine j_arg rfl rfl rfl rfl rfl (by omega) (by omega) hL ?_
  refine j_callV (ci := 12) rfl okX12_paper c_L_125 hM rfl rfl (hS.lt (by decide)) (hS.k (by decide) (by decide)) (by decide) rfl (Nat.le_of_ble_eq_true rfl) (by decide) ⟨by show _ ≤ 600000; omega, by show _ ≤ 7302250; omega⟩ ?_
  rintro v2 m2 ⟨rfl, hI⟩
  simp only [Option.toList_some, List.cons_append, List.nil_append]
  refine j_icmp_same (tgt := 1786) rfl (by decide) ?_
  exact j_with dLH (kk _ _ _ hI (by omega) (by omega))
/-- holds -/
def iL27 : List (Nat × Instr × Nat) := [(1253, .aload_n 1, 1), (1254, .aload_n 0, 1), (1255, .iload_n 3, 1), (1256, .iconst 1, 1), (1257, .iadd, 1), (1258, .iaload, 1), (1259, .aload_n 0, 1), (1260, .iload_n 3, 1), (1261, .iconst 2, 1), (1262, .iadd, 1), (1263, .iaload, 1), (1264, .invokevirtual 126, 3), (1267, .aload_n 2, 1), (1268, .aload_n 0, 1), (1269, .iload_n 3, 1), (1270, .iconst 1, 1), (1271, .iadd, 1), (1272, .iaload, 1), (1273, .aload_n 0, 1), (1274, .iload_n 3, 1), (1275, .iconst 2, 1), (1276, .iadd, 1), (1277, .iaload, 1), (1278, .invokevirtual 129, 3), (1281, .if_icmp .eq 505, 3), (1284, .iconst 0, 1), (1285, .ireturn, 1)]
theorem dL27 : qDec (mLw iL27) := (by decide +kernel : ∀ q ∈ iL27, decode code q.1 = .ok q.2)
set_option maxRecDepth 20000 in
set_option maxHeartbeats 4000000 in
theorem lc_27 {G : QW} (hT : TB G) (hL : G.oL 0 ≤ 3072) {i : Int} (hi : 0 ≤ i) (hj : i + 6 ≤ (G.oL 0 : Int)) {m : AM} (h : Inv m) {cc cs : Nat} (hc : cc ≤ 10000) (hs : cs ≤ 1000000) (kk : ∀ (m2 : AM) (c2 s2 : Nat), Inv m2 → c2 ≤ cc + 9 → s2 ≤ cs + 235 → qJ G (mLw iLH) room_1 (LF G) 1786 (lawL i) [] m2 c2 s2) : qJ G (mLw iLH) room_1 (LF G) 1253 (lawL i) [] m cc cs := by
  refine j_with dL27 ?_
  refine j_aload_n rfl rfl ?_
  refine j_arg rfl rfl rfl rfl rfl (by omega) (by omega) hL ?_
  refine j_arg rfl rfl rfl rfl rfl (by omega) (by omega) hL ?_
  refine j_callV (ci := 11) rfl okX11_holds c_L_126 (ag_holds h (ox1 _) (ox2 _) (ox1 _) (ox2 _)) rfl rfl (h.s.lt (by decide)) (h.s.k (by decide) (by decide)) (by decide) rfl (Nat.le_of_ble_eq_true rfl) (by decide) ⟨by show _ ≤ 600000; omega, by show _ ≤ 7302250; omega⟩ ?_
  rintro v m1 ⟨⟨t, a⟩, rfl, ht, hS, hM⟩
  have ht : t = 0 := ht
  subst ht
  simp only [Option.toList_some, List.cons_append, List.nil_append]
  refine j_aload_n rfl rfl ?_
  refine j_arg rfl rfl rfl rfl rfl (by omega) (by omega) hL ?_
  refine j_arg rfl rfl rfl rfl rfl (by omega) (by omega) hL ?_
  refine j_callV (ci := 12) rfl okX12_holds c_L_129 hM rfl rfl (hS.lt (by decide)) (hS.k (by decide) (by decide)) (by decide) rfl (Nat.le_of_ble_eq_true rfl) (by decide) ⟨by show _ ≤ 600000; omega, by show _ ≤ 7302250; omega⟩ ?_
  rintro v2 m2 ⟨rfl, hI⟩
  simp only [Option.toList_some, List.cons_append, List.nil_append]
  refine j_icmp_same (tgt := 1786) rfl (by decide) ?_
  exact j_with dLH (kk _ _ _ hI (by omega) (by omega))
/-- sign -/
def iL28 : List (Nat × Instr × Nat) := [(1286, .aload_n 1, 1), (1287, .aload_n 0, 1), (1288, .iload_n 3, 1), (1289, .iconst 1, 1), (1290, .iadd, 1), (1291, .iaload, 1), (1292, .aload_n 0, 1), (1293, .iload_n 3, 1), (1294, .iconst 2, 1), (1295, .iadd, 1), (1296, .iaload, 1), (1297, .aload_n 0, 1), (1298, .iload_n 3, 1), (1299, .iconst 3, 1), (1300, .iadd, 1), (1301, .iaload, 1), (1302, .invokevirtual 130, 3), (1305, .aload_n 2, 1), (1306, .aload_n 0, 1), (1307, .iload_n 3, 1), (1308, .iconst 1, 1), (1309, .iadd, 1), (1310, .iaload, 1), (1311, .aload_n 0, 1), (1312, .iload_n 3, 1), (1313, .iconst 2, 1), (1314, .iadd, 1), (1315, .iaload, 1), (1316, .aload_n 0, 1), (1317, .iload_n 3, 1), (1318, .iconst 3, 1), (1319, .iadd, 1), (1320, .iaload, 1), (1321, .invokevirtual 133, 3), (1324, .if_icmp .eq 462, 3), (1327, .iconst 0, 1), (1328, .ireturn, 1)]
theorem dL28 : qDec (mLw iL28) := (by decide +kernel : ∀ q ∈ iL28, decode code q.1 = .ok q.2)
set_option maxRecDepth 20000 in
set_option maxHeartbeats 4000000 in
theorem lc_28 {G : QW} (hT : TB G) (hL : G.oL 0 ≤ 3072) {i : Int} (hi : 0 ≤ i) (hj : i + 6 ≤ (G.oL 0 : Int)) {m : AM} (h : Inv m) {cc cs : Nat} (hc : cc ≤ 10000) (hs : cs ≤ 1000000) (kk : ∀ (m2 : AM) (c2 s2 : Nat), Inv m2 → c2 ≤ cc + 9 → s2 ≤ cs + 235 → qJ G (mLw iLH) room_1 (LF G) 1786 (lawL i) [] m2 c2 s2) : qJ G (mLw iLH) room_1 (LF G) 1286 (lawL i) [] m cc cs := by
  refine j_with dL28 ?_
  refine j_aload_n rfl rfl ?_
  refine j_arg rfl rfl rfl rfl rfl (by omega) (by omega) hL ?_
  refine j_arg rfl rfl rfl rfl rfl (by omega) (by omega) hL ?_
  refine j_arg rfl rfl rfl rfl rfl (by omega) (by omega) hL ?_
  refine j_callV (ci := 11) rfl okX11_sign c_L_130 (ag_sign h (ox1 _) (ox2 _) (ox1 _) (ox2 _) (ox1 _) (ox2 _)) rfl rfl (h.s.lt (by decide)) (h.s.k (by decide) (by decide)) (by decide) rfl (Nat.le_of_ble_eq_true rfl) (by decide) ⟨by show _ ≤ 600000; omega, by show _ ≤ 7302250; omega⟩ ?_
  rintro v m1 ⟨⟨t, a⟩, rfl, ht, hS, hM⟩
  have ht : t = 0 := ht
  subst ht
  simp only [Option.toList_some, List.cons_append, List.nil_append]
  refine j_aload_n rfl rfl ?_
  refine j_arg rfl rfl rfl rfl rfl (by omega) (by omega) hL ?_
  refine j_arg rfl rfl rfl rfl rfl (by omega) (by omega) hL ?_
  refine j_arg rfl rfl rfl rfl rfl (by omega) (by omega) hL ?_
  refine j_callV (ci := 12) rfl okX12_sign c_L_133 hM rfl rfl (hS.lt (by decide)) (hS.k (by decide) (by decide)) (by decide) rfl (Nat.le_of_ble_eq_true rfl) (by decide) ⟨by show _ ≤ 600000; omega, by show _ ≤ 7302250; omega⟩ ?_
  rintro v2 m2 ⟨rfl, hI⟩
  simp only [Option.toList_some, List.cons_append, List.nil_append]
  refine j_icmp_same (tgt := 1786) rfl (by decide) ?_
  exact j_with dLH (kk _ _ _ hI (by omega) (by omega))
/-- saw -/
def iL29 : List (Nat × Instr × Nat) := [(1329, .aload_n 1, 1), (1330, .aload_n 0, 1), (1331, .iload_n 3, 1), (1332, .iconst 1, 1), (1333, .iadd, 1), (1334, .iaload, 1), (1335, .aload_n 0, 1), (1336, .iload_n 3, 1), (1337, .iconst 2, 1), (1338, .iadd, 1), (1339, .iaload, 1), (1340, .invokevirtual 134, 3), (1343, .aload_n 2, 1), (1344, .aload_n 0, 1), (1345, .iload_n 3, 1), (1346, .iconst 1, 1), (1347, .iadd, 1), (1348, .iaload, 1), (1349, .aload_n 0, 1), (1350, .iload_n 3, 1), (1351, .iconst 2, 1), (1352, .iadd, 1), (1353, .iaload, 1), (1354, .invokevirtual 137, 3), (1357, .if_icmp .eq 429, 3), (1360, .iconst 0, 1), (1361, .ireturn, 1)]
theorem dL29 : qDec (mLw iL29) := (by decide +kernel : ∀ q ∈ iL29, decode code q.1 = .ok q.2)
set_option maxRecDepth 20000 in
set_option maxHeartbeats 4000000 in
theorem lc_29 {G : QW} (hT : TB G) (hL : G.oL 0 ≤ 3072) {i : Int} (hi : 0 ≤ i) (hj : i + 6 ≤ (G.oL 0 : Int)) {m : AM} (h : Inv m) {cc cs : Nat} (hc : cc ≤ 10000) (hs : cs ≤ 1000000) (kk : ∀ (m2 : AM) (c2 s2 : Nat), Inv m2 → c2 ≤ cc + 9 → s2 ≤ cs + 235 → qJ G (mLw iLH) room_1 (LF G) 1786 (lawL i) [] m2 c2 s2) : qJ G (mLw iLH) room_1 (LF G) 1329 (lawL i) [] m cc cs := by
  refine j_with dL29 ?_
  refine j_aload_n rfl rfl ?_
  refine j_arg rfl rfl rfl rfl rfl (by omega) (by omega) hL ?_
  refine j_arg rfl rfl rfl rfl rfl (by omega) (by omega) hL ?_
  refine j_callV (ci := 11) rfl okX11_saw c_L_134 (ag_saw h (ox1 _) (ox2 _) (ox1 _) (ox2 _)) rfl rfl (h.s.lt (by decide)) (h.s.k (by decide) (by decide)) (by decide) rfl (Nat.le_of_ble_eq_true rfl) (by decide) ⟨by show _ ≤ 600000; omega, by show _ ≤ 7302250; omega⟩ ?_
  rintro v m1 ⟨⟨t, a⟩, rfl, ht, hS, hM⟩
  have ht : t = 0 := ht
  subst ht
  simp only [Option.toList_some, List.cons_append, List.nil_append]
  refine j_aload_n rfl rfl ?_
  refine j_arg rfl rfl rfl rfl rfl (by omega) (by omega) hL ?_
  refine j_arg rfl rfl rfl rfl rfl (by omega) (by omega) hL ?_
  refine j_callV (ci := 12) rfl okX12_saw c_L_137 hM rfl rfl (hS.lt (by decide)) (hS.k (by decide) (by decide)) (by decide) rfl (Nat.le_of_ble_eq_true rfl) (by decide) ⟨by show _ ≤ 600000; omega, by show _ ≤ 7302250; omega⟩ ?_
  rintro v2 m2 ⟨rfl, hI⟩
  simp only [Option.toList_some, List.cons_append, List.nil_append]
  refine j_icmp_same (tgt := 1786) rfl (by decide) ?_
  exact j_with dLH (kk _ _ _ hI (by omega) (by omega))
/-- blind -/
def iL30 : List (Nat × Instr × Nat) := [(1362, .aload_n 1, 1), (1363, .aload_n 0, 1), (1364, .iload_n 3, 1), (1365, .iconst 1, 1), (1366, .iadd, 1), (1367, .iaload, 1), (1368, .invokevirtual 138, 3), (1371, .aload_n 2, 1), (1372, .aload_n 0, 1), (1373, .iload_n 3, 1), (1374, .iconst 1, 1), (1375, .iadd, 1), (1376, .iaload, 1), (1377, .invokevirtual 141, 3), (1380, .if_icmp .eq 406, 3), (1383, .iconst 0, 1), (1384, .ireturn, 1)]
theorem dL30 : qDec (mLw iL30) := (by decide +kernel : ∀ q ∈ iL30, decode code q.1 = .ok q.2)
set_option maxRecDepth 20000 in
set_option maxHeartbeats 4000000 in
theorem lc_30 {G : QW} (hT : TB G) (hL : G.oL 0 ≤ 3072) {i : Int} (hi : 0 ≤ i) (hj : i + 6 ≤ (G.oL 0 : Int)) {m : AM} (h : Inv m) {cc cs : Nat} (hc : cc ≤ 10000) (hs : cs ≤ 1000000) (kk : ∀ (m2 : AM) (c2 s2 : Nat), Inv m2 → c2 ≤ cc + 9 → s2 ≤ cs + 235 → qJ G (mLw iLH) room_1 (LF G) 1786 (lawL i) [] m2 c2 s2) : qJ G (mLw iLH) room_1 (LF G) 1362 (lawL i) [] m cc cs := by
  refine j_with dL30 ?_
  refine j_aload_n rfl rfl ?_
  refine j_arg rfl rfl rfl rfl rfl (by omega) (by omega) hL ?_
  refine j_callV (ci := 11) rfl okX11_blind c_L_138 (ag_blind h (ox1 _) (ox2 _)) rfl rfl (h.s.lt (by decide)) (h.s.k (by decide) (by decide)) (by decide) rfl (Nat.le_of_ble_eq_true rfl) (by decide) ⟨by show _ ≤ 600000; omega, by show _ ≤ 7302250; omega⟩ ?_
  rintro v m1 ⟨⟨t, a⟩, rfl, ht, hS, hM⟩
  have ht : t = 0 := ht
  subst ht
  simp only [Option.toList_some, List.cons_append, List.nil_append]
  refine j_aload_n rfl rfl ?_
  refine j_arg rfl rfl rfl rfl rfl (by omega) (by omega) hL ?_
  refine j_callV (ci := 12) rfl okX12_blind c_L_141 hM rfl rfl (hS.lt (by decide)) (hS.k (by decide) (by decide)) (by decide) rfl (Nat.le_of_ble_eq_true rfl) (by decide) ⟨by show _ ≤ 600000; omega, by show _ ≤ 7302250; omega⟩ ?_
  rintro v2 m2 ⟨rfl, hI⟩
  simp only [Option.toList_some, List.cons_append, List.nil_append]
  refine j_icmp_same (tgt := 1786) rfl (by decide) ?_
  exact j_with dLH (kk _ _ _ hI (by omega) (by omega))

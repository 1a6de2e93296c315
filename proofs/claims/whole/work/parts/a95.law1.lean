/-! the law: its cases, on -/
/-- run -/
def iL11 : List (Nat × Instr × Nat) := [(615, .aload_n 1, 1), (616, .aload_n 0, 1), (617, .iload_n 3, 1), (618, .iconst 1, 1), (619, .iadd, 1), (620, .iaload, 1), (621, .aload_n 0, 1), (622, .iload_n 3, 1), (623, .iconst 2, 1), (624, .iadd, 1), (625, .iaload, 1), (626, .invokevirtual 62, 3), (629, .aload_n 2, 1), (630, .aload_n 0, 1), (631, .iload_n 3, 1), (632, .iconst 1, 1), (633, .iadd, 1), (634, .iaload, 1), (635, .aload_n 0, 1), (636, .iload_n 3, 1), (637, .iconst 2, 1), (638, .iadd, 1), (639, .iaload, 1), (640, .invokevirtual 65, 3), (643, .if_icmp .eq 1143, 3), (646, .iconst 0, 1), (647, .ireturn, 1)]
theorem dL11 : qDec (mLw iL11) := (by decide +kernel : ∀ q ∈ iL11, decode code q.1 = .ok q.2)
set_option maxRecDepth 20000 in
set_option maxHeartbeats 4000000 in
theorem lc_11 {G : QW} (hT : TB G) (hL : G.oL 0 ≤ 3072) {i : Int} (hi : 0 ≤ i) (hj : i + 6 ≤ (G.oL 0 : Int)) {m : AM} (h : Inv m) {cc cs : Nat} (hc : cc ≤ 10000) (hs : cs ≤ 1000000) (kk : ∀ (m2 : AM) (c2 s2 : Nat), Inv m2 → c2 ≤ cc + 9 → s2 ≤ cs + 235 → qJ G (mLw iLH) room_1 (LF G) 1786 (lawL i) [] m2 c2 s2) : qJ G (mLw iLH) room_1 (LF G) 615 (lawL i) [] m cc cs := by
  refine j_with dL11 ?_
  refine j_aload_n rfl rfl ?_
  refine j_arg rfl rfl rfl rfl rfl (by omega) (by omega) hL ?_
  refine j_arg rfl rfl rfl rfl rfl (by omega) (by omega) hL ?_
  refine j_callV (ci := 11) rfl okX11_run c_L_62 (ag_run h (ox1 _) (ox2 _) (ox1 _) (ox2 _)) rfl rfl (h.s.lt (by decide)) (h.s.k (by decide) (by decide)) (by decide) rfl (Nat.le_of_ble_eq_true rfl) (by decide) ⟨by show _ ≤ 600000; omega, by show _ ≤ 7302250; omega⟩ ?_
  rintro v m1 ⟨⟨t, a⟩, rfl, ht, hS, hM⟩
  have ht : t = 0 := ht
  subst ht
  simp only [Option.toList_some, List.cons_append, List.nil_append]
  refine j_aload_n rfl rfl ?_
  refine j_arg rfl rfl rfl rfl rfl (by omega) (by omega) hL ?_
  refine j_arg rfl rfl rfl rfl rfl (by omega) (by omega) hL ?_
  refine j_callV (ci := 12) rfl okX12_run c_L_65 hM rfl rfl (hS.lt (by decide)) (hS.k (by decide) (by decide)) (by decide) rfl (Nat.le_of_ble_eq_true rfl) (by decide) ⟨by show _ ≤ 600000; omega, by show _ ≤ 7302250; omega⟩ ?_
  rintro v2 m2 ⟨rfl, hI⟩
  simp only [Option.toList_some, List.cons_append, List.nil_append]
  refine j_icmp_same (tgt := 1786) rfl (by decide) ?_
  exact j_with dLH (kk _ _ _ hI (by omega) (by omega))
/-- ofRun -/
def iL12 : List (Nat × Instr × Nat) := [(648, .aload_n 1, 1), (649, .aload_n 0, 1), (650, .iload_n 3, 1), (651, .iconst 1, 1), (652, .iadd, 1), (653, .iaload, 1), (654, .aload_n 0, 1), (655, .iload_n 3, 1), (656, .iconst 2, 1), (657, .iadd, 1), (658, .iaload, 1), (659, .invokevirtual 66, 3), (662, .aload_n 2, 1), (663, .aload_n 0, 1), (664, .iload_n 3, 1), (665, .iconst 1, 1), (666, .iadd, 1), (667, .iaload, 1), (668, .aload_n 0, 1), (669, .iload_n 3, 1), (670, .iconst 2, 1), (671, .iadd, 1), (672, .iaload, 1), (673, .invokevirtual 69, 3), (676, .if_icmp .eq 1110, 3), (679, .iconst 0, 1), (680, .ireturn, 1)]
theorem dL12 : qDec (mLw iL12) := (by decide +kernel : ∀ q ∈ iL12, decode code q.1 = .ok q.2)
set_option maxRecDepth 20000 in
set_option maxHeartbeats 4000000 in
theorem lc_12 {G : QW} (hT : TB G) (hL : G.oL 0 ≤ 3072) {i : Int} (hi : 0 ≤ i) (hj : i + 6 ≤ (G.oL 0 : Int)) {m : AM} (h : Inv m) {cc cs : Nat} (hc : cc ≤ 10000) (hs : cs ≤ 1000000) (kk : ∀ (m2 : AM) (c2 s2 : Nat), Inv m2 → c2 ≤ cc + 9 → s2 ≤ cs + 235 → qJ G (mLw iLH) room_1 (LF G) 1786 (lawL i) [] m2 c2 s2) : qJ G (mLw iLH) room_1 (LF G) 648 (lawL i) [] m cc cs := by
  refine j_with dL12 ?_
  refine j_aload_n rfl rfl ?_
  refine j_arg rfl rfl rfl rfl rfl (by omega) (by omega) hL ?_
  refine j_arg rfl rfl rfl rfl rfl (by omega) (by omega) hL ?_
  refine j_callV (ci := 11) rfl okX11_ofRun c_L_66 (ag_ofRun h (ox1 _) (ox2 _) (ox1 _) (ox2 _)) rfl rfl (h.s.lt (by decide)) (h.s.k (by decide) (by decide)) (by decide) rfl (Nat.le_of_ble_eq_true rfl) (by decide) ⟨by show _ ≤ 600000; omega, by show _ ≤ 7302250; omega⟩ ?_
  rintro v m1 ⟨⟨t, a⟩, rfl, ht, hS, hM⟩
  have ht : t = 0 := ht
  subst ht
  simp only [Option.toList_some, List.cons_append, List.nil_append]
  refine j_aload_n rfl rfl ?_
  refine j_arg rfl rfl rfl rfl rfl (by omega) (by omega) hL ?_
  refine j_arg rfl rfl rfl rfl rfl (by omega) (by omega) hL ?_
  refine j_callV (ci := 12) rfl okX12_ofRun c_L_69 hM rfl rfl (hS.lt (by decide)) (hS.k (by decide) (by decide)) (by decide) rfl (Nat.le_of_ble_eq_true rfl) (by decide) ⟨by show _ ≤ 600000; omega, by show _ ≤ 7302250; omega⟩ ?_
  rintro v2 m2 ⟨rfl, hI⟩
  simp only [Option.toList_some, List.cons_append, List.nil_append]
  refine j_icmp_same (tgt := 1786) rfl (by decide) ?_
  exact j_with dLH (kk _ _ _ hI (by omega) (by omega))
/-- firstFault -/
def iL13 : List (Nat × Instr × Nat) := [(681, .aload_n 1, 1), (682, .aload_n 0, 1), (683, .iload_n 3, 1), (684, .iconst 1, 1), (685, .iadd, 1), (686, .iaload, 1), (687, .invokevirtual 70, 3), (690, .aload_n 2, 1), (691, .aload_n 0, 1), (692, .iload_n 3, 1), (693, .iconst 1, 1), (694, .iadd, 1), (695, .iaload, 1), (696, .invokevirtual 73, 3), (699, .if_icmp .eq 1087, 3), (702, .iconst 0, 1), (703, .ireturn, 1)]
theorem dL13 : qDec (mLw iL13) := (by decide +kernel : ∀ q ∈ iL13, decode code q.1 = .ok q.2)
set_option maxRecDepth 20000 in
set_option maxHeartbeats 4000000 in
theorem lc_13 {G : QW} (hT : TB G) (hL : G.oL 0 ≤ 3072) {i : Int} (hi : 0 ≤ i) (hj : i + 6 ≤ (G.oL 0 : Int)) {m : AM} (h : Inv m) {cc cs : Nat} (hc : cc ≤ 10000) (hs : cs ≤ 1000000) (kk : ∀ (m2 : AM) (c2 s2 : Nat), Inv m2 → c2 ≤ cc + 9 → s2 ≤ cs + 235 → qJ G (mLw iLH) room_1 (LF G) 1786 (lawL i) [] m2 c2 s2) : qJ G (mLw iLH) room_1 (LF G) 681 (lawL i) [] m cc cs := by
  refine j_with dL13 ?_
  refine j_aload_n rfl rfl ?_
  refine j_arg rfl rfl rfl rfl rfl (by omega) (by omega) hL ?_
  refine j_callV (ci := 11) rfl okX11_firstFault c_L_70 (ag_firstFault h (ox1 _) (ox2 _)) rfl rfl (h.s.lt (by decide)) (h.s.k (by decide) (by decide)) (by decide) rfl (Nat.le_of_ble_eq_true rfl) (by decide) ⟨by show _ ≤ 600000; omega, by show _ ≤ 7302250; omega⟩ ?_
  rintro v m1 ⟨⟨t, a⟩, rfl, ht, hS, hM⟩
  have ht : t = 0 := ht
  subst ht
  simp only [Option.toList_some, List.cons_append, List.nil_append]
  refine j_aload_n rfl rfl ?_
  refine j_arg rfl rfl rfl rfl rfl (by omega) (by omega) hL ?_
  refine j_callV (ci := 12) rfl okX12_firstFault c_L_73 hM rfl rfl (hS.lt (by decide)) (hS.k (by decide) (by decide)) (by decide) rfl (Nat.le_of_ble_eq_true rfl) (by decide) ⟨by show _ ≤ 600000; omega, by show _ ≤ 7302250; omega⟩ ?_
  rintro v2 m2 ⟨rfl, hI⟩
  simp only [Option.toList_some, List.cons_append, List.nil_append]
  refine j_icmp_same (tgt := 1786) rfl (by decide) ?_
  exact j_with dLH (kk _ _ _ hI (by omega) (by omega))
/-- span -/
def iL14 : List (Nat × Instr × Nat) := [(704, .aload_n 1, 1), (705, .aload_n 0, 1), (706, .iload_n 3, 1), (707, .iconst 1, 1), (708, .iadd, 1), (709, .iaload, 1), (710, .aload_n 0, 1), (711, .iload_n 3, 1), (712, .iconst 2, 1), (713, .iadd, 1), (714, .iaload, 1), (715, .aload_n 0, 1), (716, .iload_n 3, 1), (717, .iconst 3, 1), (718, .iadd, 1), (719, .iaload, 1), (720, .invokevirtual 74, 3), (723, .aload_n 2, 1), (724, .aload_n 0, 1), (725, .iload_n 3, 1), (726, .iconst 1, 1), (727, .iadd, 1), (728, .iaload, 1), (729, .aload_n 0, 1), (730, .iload_n 3, 1), (731, .iconst 2, 1), (732, .iadd, 1), (733, .iaload, 1), (734, .aload_n 0, 1), (735, .iload_n 3, 1), (736, .iconst 3, 1), (737, .iadd, 1), (738, .iaload, 1), (739, .invokevirtual 77, 3), (742, .if_icmp .eq 1044, 3), (745, .iconst 0, 1), (746, .ireturn, 1)]
theorem dL14 : qDec (mLw iL14) := (by decide +kernel : ∀ q ∈ iL14, decode code q.1 = .ok q.2)
set_option maxRecDepth 20000 in
set_option maxHeartbeats 4000000 in
theorem lc_14 {G : QW} (hT : TB G) (hL : G.oL 0 ≤ 3072) {i : Int} (hi : 0 ≤ i) (hj : i + 6 ≤ (G.oL 0 : Int)) {m : AM} (h : Inv m) {cc cs : Nat} (hc : cc ≤ 10000) (hs : cs ≤ 1000000) (kk : ∀ (m2 : AM) (c2 s2 : Nat), Inv m2 → c2 ≤ cc + 9 → s2 ≤ cs + 235 → qJ G (mLw iLH) room_1 (LF G) 1786 (lawL i) [] m2 c2 s2) : qJ G (mLw iLH) room_1 (LF G) 704 (lawL i) [] m cc cs := by
  refine j_with dL14 ?_
  refine j_aload_n rfl rfl ?_
  refine j_arg rfl rfl rfl rfl rfl (by omega) (by omega) hL ?_
  refine j_arg rfl rfl rfl rfl rfl (by omega) (by omega) hL ?_
  refine j_arg rfl rfl rfl rfl rfl (by omega) (by omega) hL ?_
  refine j_callV (ci := 11) rfl okX11_span c_L_74 (ag_span h (ox1 _) (ox2 _) (ox1 _) (ox2 _) (ox1 _) (ox2 _)) rfl rfl (h.s.lt (by decide)) (h.s.k (by decide) (by decide)) (by decide) rfl (Nat.le_of_ble_eq_true rfl) (by decide) ⟨by show _ ≤ 600000; omega, by show _ ≤ 7302250; omega⟩ ?_
  rintro v m1 ⟨⟨t, a⟩, rfl, ht, hS, hM⟩
  have ht : t = 0 := ht
  subst ht
  simp only [Option.toList_some, List.cons_append, List.nil_append]
  refine j_aload_n rfl rfl ?_
  refine j_arg rfl rfl rfl rfl rfl (by omega) (by omega) hL ?_
  refine j_arg rfl rfl rfl rfl rfl (by omega) (by omega) hL ?_
  refine j_arg rfl rfl rfl rfl rfl (by omega) (by omega) hL ?_
  refine j_callV (ci := 12) rfl okX12_span c_L_77 hM rfl rfl (hS.lt (by decide)) (hS.k (by decide) (by decide)) (by decide) rfl (Nat.le_of_ble_eq_true rfl) (by decide) ⟨by show _ ≤ 600000; omega, by show _ ≤ 7302250; omega⟩ ?_
  rintro v2 m2 ⟨rfl, hI⟩
  simp only [Option.toList_some, List.cons_append, List.nil_append]
  refine j_icmp_same (tgt := 1786) rfl (by decide) ?_
  exact j_with dLH (kk _ _ _ hI (by omega) (by omega))
/-- all -/
def iL15 : List (Nat × Instr × Nat) := [(747, .aload_n 1, 1), (748, .aload_n 0, 1), (749, .iload_n 3, 1), (750, .iconst 1, 1), (751, .iadd, 1), (752, .iaload, 1), (753, .aload_n 0, 1), (754, .iload_n 3, 1), (755, .iconst 2, 1), (756, .iadd, 1), (757, .iaload, 1), (758, .aload_n 0, 1), (759, .iload_n 3, 1), (760, .iconst 3, 1), (761, .iadd, 1), (762, .iaload, 1), (763, .invokevirtual 78, 3), (766, .aload_n 2, 1), (767, .aload_n 0, 1), (768, .iload_n 3, 1), (769, .iconst 1, 1), (770, .iadd, 1), (771, .iaload, 1), (772, .aload_n 0, 1), (773, .iload_n 3, 1), (774, .iconst 2, 1), (775, .iadd, 1), (776, .iaload, 1), (777, .aload_n 0, 1), (778, .iload_n 3, 1), (779, .iconst 3, 1), (780, .iadd, 1), (781, .iaload, 1), (782, .invokevirtual 81, 3), (785, .if_icmp .eq 1001, 3), (788, .iconst 0, 1), (789, .ireturn, 1)]
theorem dL15 : qDec (mLw iL15) := (by decide +kernel : ∀ q ∈ iL15, decode code q.1 = .ok q.2)
set_option maxRecDepth 20000 in
set_option maxHeartbeats 4000000 in
theorem lc_15 {G : QW} (hT : TB G) (hL : G.oL 0 ≤ 3072) {i : Int} (hi : 0 ≤ i) (hj : i + 6 ≤ (G.oL 0 : Int)) {m : AM} (h : Inv m) {cc cs : Nat} (hc : cc ≤ 10000) (hs : cs ≤ 1000000) (kk : ∀ (m2 : AM) (c2 s2 : Nat), Inv m2 → c2 ≤ cc + 9 → s2 ≤ cs + 235 → qJ G (mLw iLH) room_1 (LF G) 1786 (lawL i) [] m2 c2 s2) : qJ G (mLw iLH) room_1 (LF G) 747 (lawL i) [] m cc cs := by
  refine j_with dL15 ?_
  refine j_aload_n rfl rfl ?_
  refine j_arg rfl rfl rfl rfl rfl (by omega) (by omega) hL ?_
  refine j_arg rfl rfl rfl rfl rfl (by omega) (by omega) hL ?_
  refine j_arg rfl rfl rfl rfl rfl (by omega) (by omega) hL ?_
  refine j_callV (ci := 11) rfl okX11_all c_L_78 (ag_all h (ox1 _) (ox2 _) (ox1 _) (ox2 _) (ox1 _) (ox2 _)) rfl rfl (h.s.lt (by decide)) (h.s.k (by decide) (by decide)) (by decide) rfl (Nat.le_of_ble_eq_true rfl) (by decide) ⟨by show _ ≤ 600000; omega, by show _ ≤ 7302250; omega⟩ ?_
  rintro v m1 ⟨⟨t, a⟩, rfl, ht, hS, hM⟩
  have ht : t = 0 := ht
  subst ht
  simp only [Option.toList_some, List.cons_append, List.nil_append]
  refine j_aload_n rfl rfl ?_
  refine j_arg rfl rfl rfl rfl rfl (by omega) (by omega) hL ?_
  refine j_arg rfl rfl rfl rfl rfl (by omega) (by omega) hL ?_
  refine j_arg rfl rfl rfl rfl rfl (by omega) (by omega) hL ?_
  refine j_callV (ci := 12) rfl okX12_all c_L_81 hM rfl rfl (hS.lt (by decide)) (hS.k (by decide) (by decide)) (by decide) rfl (Nat.le_of_ble_eq_true rfl) (by decide) ⟨by show _ ≤ 600000; omega, by show _ ≤ 7302250; omega⟩ ?_
  rintro v2 m2 ⟨rfl, hI⟩
  simp only [Option.toList_some, List.cons_append, List.nil_append]
  refine j_icmp_same (tgt := 1786) rfl (by decide) ?_
  exact j_with dLH (kk _ _ _ hI (by omega) (by omega))
/-- began -/
def iL16 : List (Nat × Instr × Nat) := [(790, .aload_n 1, 1), (791, .aload_n 0, 1), (792, .iload_n 3, 1), (793, .iconst 1, 1), (794, .iadd, 1), (795, .iaload, 1), (796, .invokevirtual 82, 3), (799, .aload_n 2, 1), (800, .aload_n 0, 1), (801, .iload_n 3, 1), (802, .iconst 1, 1), (803, .iadd, 1), (804, .iaload, 1), (805, .invokevirtual 85, 3), (808, .if_icmp .eq 978, 3), (811, .iconst 0, 1), (812, .ireturn, 1)]
theorem dL16 : qDec (mLw iL16) := (by decide +kernel : ∀ q ∈ iL16, decode code q.1 = .ok q.2)
set_option maxRecDepth 20000 in
set_option maxHeartbeats 4000000 in
theorem lc_16 {G : QW} (hT : TB G) (hL : G.oL 0 ≤ 3072) {i : Int} (hi : 0 ≤ i) (hj : i + 6 ≤ (G.oL 0 : Int)) {m : AM} (h : Inv m) {cc cs : Nat} (hc : cc ≤ 10000) (hs : cs ≤ 1000000) (kk : ∀ (m2 : AM) (c2 s2 : Nat), Inv m2 → c2 ≤ cc + 9 → s2 ≤ cs + 235 → qJ G (mLw iLH) room_1 (LF G) 1786 (lawL i) [] m2 c2 s2) : qJ G (mLw iLH) room_1 (LF G) 790 (lawL i) [] m cc cs := by
  refine j_with dL16 ?_
  refine j_aload_n rfl rfl ?_
  refine j_arg rfl rfl rfl rfl rfl (by omega) (by omega) hL ?_
  refine j_callV (ci := 11) rfl okX11_began c_L_82 (ag_began h (ox1 _) (ox2 _)) rfl rfl (h.s.lt (by decide)) (h.s.k (by decide) (by decide)) (by decide) rfl (Nat.le_of_ble_eq_true rfl) (by decide) ⟨by show _ ≤ 600000; omega, by show _ ≤ 7302250; omega⟩ ?_
  rintro v m1 ⟨⟨t, a⟩, rfl, ht, hS, hM⟩
  have ht : t = 0 := ht
  subst ht
  simp only [Option.toList_some, List.cons_append, List.nil_append]
  refine j_aload_n rfl rfl ?_
  refine j_arg rfl rfl rfl rfl rfl (by omega) (by omega) hL ?_
  refine j_callV (ci := 12) rfl okX12_began c_L_85 hM rfl rfl (hS.lt (by decide)) (hS.k (by decide) (by decide)) (by decide) rfl (Nat.le_of_ble_eq_true rfl) (by decide) ⟨by show _ ≤ 600000; omega, by show _ ≤ 7302250; omega⟩ ?_
  rintro v2 m2 ⟨rfl, hI⟩
  simp only [Option.toList_some, List.cons_append, List.nil_append]
  refine j_icmp_same (tgt := 1786) rfl (by decide) ?_
  exact j_with dLH (kk _ _ _ hI (by omega) (by omega))
/-- gaps -/
def iL17 : List (Nat × Instr × Nat) := [(813, .aload_n 1, 1), (814, .aload_n 0, 1), (815, .iload_n 3, 1), (816, .iconst 1, 1), (817, .iadd, 1), (818, .iaload, 1), (819, .aload_n 0, 1), (820, .iload_n 3, 1), (821, .iconst 2, 1), (822, .iadd, 1), (823, .iaload, 1), (824, .invokevirtual 86, 3), (827, .aload_n 2, 1), (828, .aload_n 0, 1), (829, .iload_n 3, 1), (830, .iconst 1, 1), (831, .iadd, 1), (832, .iaload, 1), (833, .aload_n 0, 1), (834, .iload_n 3, 1), (835, .iconst 2, 1), (836, .iadd, 1), (837, .iaload, 1), (838, .invokevirtual 89, 3), (841, .if_icmp .eq 945, 3), (844, .iconst 0, 1), (845, .ireturn, 1)]
theorem dL17 : qDec (mLw iL17) := (by decide +kernel : ∀ q ∈ iL17, decode code q.1 = .ok q.2)
set_option maxRecDepth 20000 in
set_option maxHeartbeats 4000000 in
theorem lc_17 {G : QW} (hT : TB G) (hL : G.oL 0 ≤ 3072) {i : Int} (hi : 0 ≤ i) (hj : i + 6 ≤ (G.oL 0 : Int)) {m : AM} (h : Inv m) {cc cs : Nat} (hc : cc ≤ 10000) (hs : cs ≤ 1000000) (kk : ∀ (m2 : AM) (c2 s2 : Nat), Inv m2 → c2 ≤ cc + 9 → s2 ≤ cs + 235 → qJ G (mLw iLH) room_1 (LF G) 1786 (lawL i) [] m2 c2 s2) : qJ G (mLw iLH) room_1 (LF G) 813 (lawL i) [] m cc cs := by
  refine j_with dL17 ?_
  refine j_aload_n rfl rfl ?_
  refine j_arg rfl rfl rfl rfl rfl (by omega) (by omega) hL ?_
  refine j_arg rfl rfl rfl rfl rfl (by omega) (by omega) hL ?_
  refine j_callV (ci := 11) rfl okX11_gaps c_L_86 (ag_gaps h (ox1 _) (ox2 _) (ox1 _) (ox2 _)) rfl rfl (h.s.lt (by decide)) (h.s.k (by decide) (by decide)) (by decide) rfl (Nat.le_of_ble_eq_true rfl) (by decide) ⟨by show _ ≤ 600000; omega, by show _ ≤ 7302250; omega⟩ ?_
  rintro v m1 ⟨⟨t, a⟩, rfl, ht, hS, hM⟩
  have ht : t = 0 := ht
  subst ht
  simp only [Option.toList_some, List.cons_append, List.nil_append]
  refine j_aload_n rfl rfl ?_
  refine j_arg rfl rfl rfl rfl rfl (by omega) (by omega) hL ?_
  refine j_arg rfl rfl rfl rfl rfl (by omega) (by omega) hL ?_
  refine j_callV (ci := 12) rfl okX12_gaps c_L_89 hM rfl rfl (hS.lt (by decide)) (hS.k (by decide) (by decide)) (by decide) rfl (Nat.le_of_ble_eq_true rfl) (by decide) ⟨by show _ ≤ 600000; omega, by show _ ≤ 7302250; omega⟩ ?_
  rintro v2 m2 ⟨rfl, hI⟩
  simp only [Option.toList_some, List.cons_append, List.nil_append]
  refine j_icmp_same (tgt := 1786) rfl (by decide) ?_
  exact j_with dLH (kk _ _ _ hI (by omega) (by omega))
/-- bounds -/
def iL18 : List (Nat × Instr × Nat) := [(846, .aload_n 1, 1), (847, .aload_n 0, 1), (848, .iload_n 3, 1), (849, .iconst 1, 1), (850, .iadd, 1), (851, .iaload, 1), (852, .aload_n 0, 1), (853, .iload_n 3, 1), (854, .iconst 2, 1), (855, .iadd, 1), (856, .iaload, 1), (857, .aload_n 0, 1), (858, .iload_n 3, 1), (859, .iconst 3, 1), (860, .iadd, 1), (861, .iaload, 1), (862, .aload_n 0, 1), (863, .iload_n 3, 1), (864, .iconst 4, 1), (865, .iadd, 1), (866, .iaload, 1), (867, .invokevirtual 90, 3), (870, .aload_n 2, 1), (871, .aload_n 0, 1), (872, .iload_n 3, 1), (873, .iconst 1, 1), (874, .iadd, 1), (875, .iaload, 1), (876, .aload_n 0, 1), (877, .iload_n 3, 1), (878, .iconst 2, 1), (879, .iadd, 1), (880, .iaload, 1), (881, .aload_n 0, 1), (882, .iload_n 3, 1), (883, .iconst 3, 1), (884, .iadd, 1), (885, .iaload, 1), (886, .aload_n 0, 1), (887, .iload_n 3, 1), (888, .iconst 4, 1), (889, .iadd, 1), (890, .iaload, 1), (891, .invokevirtual 93, 3), (894, .if_icmp .eq 892, 3), (897, .iconst 0, 1), (898, .ireturn, 1)]
theorem dL18 : qDec (mLw iL18) := (by decide +kernel : ∀ q ∈ iL18, decode code q.1 = .ok q.2)
set_option maxRecDepth 20000 in
set_option maxHeartbeats 4000000 in
theorem lc_18 {G : QW} (hT : TB G) (hL : G.oL 0 ≤ 3072) {i : Int} (hi : 0 ≤ i) (hj : i + 6 ≤ (G.oL 0 : Int)) {m : AM} (h : Inv m) {cc cs : Nat} (hc : cc ≤ 10000) (hs : cs ≤ 1000000) (kk : ∀ (m2 : AM) (c2 s2 : Nat), Inv m2 → c2 ≤ cc + 9 → s2 ≤ cs + 235 → qJ G (mLw iLH) room_1 (LF G) 1786 (lawL i) [] m2 c2 s2) : qJ G (mLw iLH) room_1 (LF G) 846 (lawL i) [] m cc cs := by
  refine j_with dL18 ?_
  refine j_aload_n rfl rfl ?_
  refine j_arg rfl rfl rfl rfl rfl (by omega) (by omega) hL ?_
  refine j_arg rfl rfl rfl rfl rfl (by omega) (by omega) hL ?_
  refine j_arg rfl rfl rfl rfl rfl (by omega) (by omega) hL ?_
  refine j_arg rfl rfl rfl rfl rfl (by omega) (by omega) hL ?_
  refine j_callV (ci := 11) rfl okX11_bounds c_L_90 (ag_bounds h (ox1 _) (ox2 _) (ox1 _) (ox2 _) (ox1 _) (ox2 _) (ox1 _) (ox2 _)) rfl rfl (h.s.lt (by decide)) (h.s.k (by decide) (by decide)) (by decide) rfl (Nat.le_of_ble_eq_true rfl) (by decide) ⟨by show _ ≤ 600000; omega, by show _ ≤ 7302250; omega⟩ ?_
  rintro v m1 ⟨⟨t, a⟩, rfl, ht, hS, hM⟩
  have ht : t = 0 := ht
  subst ht
  simp only [Option.toList_some, List.cons_append, List.nil_append]
  refine j_aload_n rfl rfl ?_
  refine j_arg rfl rfl rfl rfl rfl (by omega) (by omega) hL ?_
  refine j_arg rfl rfl rfl rfl rfl (by omega) (by omega) hL ?_
  refine j_arg rfl rfl rfl rfl rfl (by omega) (by omega) hL ?_
  refine j_arg rfl rfl rfl rfl rfl (by omega) (by omega) hL ?_
  refine j_callV (ci := 12) rfl okX12_bounds c_L_93 hM rfl rfl (hS.lt (by decide)) (hS.k (by decide) (by decide)) (by decide) rfl (Nat.le_of_ble_eq_true rfl) (by decide) ⟨by show _ ≤ 600000; omega, by show _ ≤ 7302250; omega⟩ ?_
  rintro v2 m2 ⟨rfl, hI⟩
  simp only [Option.toList_some, List.cons_append, List.nil_append]
  refine j_icmp_same (tgt := 1786) rfl (by decide) ?_
  exact j_with dLH (kk _ _ _ hI (by omega) (by omega))
/-- like -/
def iL19 : List (Nat × Instr × Nat) := [(899, .aload_n 1, 1), (900, .aload_n 0, 1), (901, .iload_n 3, 1), (902, .iconst 1, 1), (903, .iadd, 1), (904, .iaload, 1), (905, .aload_n 0, 1), (906, .iload_n 3, 1), (907, .iconst 2, 1), (908, .iadd, 1), (909, .iaload, 1), (910, .invokevirtual 94, 3), (913, .aload_n 2, 1), (914, .aload_n 0, 1), (915, .iload_n 3, 1), (916, .iconst 1, 1), (917, .iadd, 1), (918, .iaload, 1), (919, .aload_n 0, 1), (920, .iload_n 3, 1), (921, .iconst 2, 1), (922, .iadd, 1), (923, .iaload, 1), (924, .invokevirtual 97, 3), (927, .if_icmp .eq 859, 3), (930, .iconst 0, 1), (931, .ireturn, 1)]
theorem dL19 : qDec (mLw iL19) := (by decide +kernel : ∀ q ∈ iL19, decode code q.1 = .ok q.2)
set_option maxRecDepth 20000 in
set_option maxHeartbeats 4000000 in
theorem lc_19 {G : QW} (hT : TB G) (hL : G.oL 0 ≤ 3072) {i : Int} (hi : 0 ≤ i) (hj : i + 6 ≤ (G.oL 0 : Int)) {m : AM} (h : Inv m) {cc cs : Nat} (hc : cc ≤ 10000) (hs : cs ≤ 1000000) (kk : ∀ (m2 : AM) (c2 s2 : Nat), Inv m2 → c2 ≤ cc + 9 → s2 ≤ cs + 235 → qJ G (mLw iLH) room_1 (LF G) 1786 (lawL i) [] m2 c2 s2) : qJ G (mLw iLH) room_1 (LF G) 899 (lawL i) [] m cc cs := by
  refine j_with dL19 ?_
  refine j_aload_n rfl rfl ?_
  refine j_arg rfl rfl rfl rfl rfl (by omega) (by omega) hL ?_
  refine j_arg rfl rfl rfl rfl rfl (by omega) (by omega) hL ?_
  refine j_callV (ci := 11) rfl okX11_like c_L_94 (ag_like h (ox1 _) (ox2 _) (ox1 _) (ox2 _)) rfl rfl (h.s.lt (by decide)) (h.s.k (by decide) (by decide)) (by decide) rfl (Nat.le_of_ble_eq_true rfl) (by decide) ⟨by show _ ≤ 600000; omega, by show _ ≤ 7302250; omega⟩ ?_
  rintro v m1 ⟨⟨t, a⟩, rfl, ht, hS, hM⟩
  have ht : t = 0 := ht
  subst ht
  simp only [Option.toList_some, List.cons_append, List.nil_append]
  refine j_aload_n rfl rfl ?_
  refine j_arg rfl rfl rfl rfl rfl (by omega) (by omega) hL ?_
  refine j_arg rfl rfl rfl rfl rfl (by omega) (by omega) hL ?_
  refine j_callV (ci := 12) rfl okX12_like c_L_97 hM rfl rfl (hS.lt (by decide)) (hS.k (by decide) (by decide)) (by decide) rfl (Nat.le_of_ble_eq_true rfl) (by decide) ⟨by show _ ≤ 600000; omega, by show _ ≤ 7302250; omega⟩ ?_
  rintro v2 m2 ⟨rfl, hI⟩
  simp only [Option.toList_some, List.cons_append, List.nil_append]
  refine j_icmp_same (tgt := 1786) rfl (by decide) ?_
  exact j_with dLH (kk _ _ _ hI (by omega) (by omega))
/-- far -/
def iL20 : List (Nat × Instr × Nat) := [(932, .aload_n 1, 1), (933, .aload_n 0, 1), (934, .iload_n 3, 1), (935, .iconst 1, 1), (936, .iadd, 1), (937, .iaload, 1), (938, .aload_n 0, 1), (939, .iload_n 3, 1), (940, .iconst 2, 1), (941, .iadd, 1), (942, .iaload, 1), (943, .aload_n 0, 1), (944, .iload_n 3, 1), (945, .iconst 3, 1), (946, .iadd, 1), (947, .iaload, 1), (948, .aload_n 0, 1), (949, .iload_n 3, 1), (950, .iconst 4, 1), (951, .iadd, 1), (952, .iaload, 1), (953, .invokevirtual 98, 3), (956, .aload_n 2, 1), (957, .aload_n 0, 1), (958, .iload_n 3, 1), (959, .iconst 1, 1), (960, .iadd, 1), (961, .iaload, 1), (962, .aload_n 0, 1), (963, .iload_n 3, 1), (964, .iconst 2, 1), (965, .iadd, 1), (966, .iaload, 1), (967, .aload_n 0, 1), (968, .iload_n 3, 1), (969, .iconst 3, 1), (970, .iadd, 1), (971, .iaload, 1), (972, .aload_n 0, 1), (973, .iload_n 3, 1), (974, .iconst 4, 1), (975, .iadd, 1), (976, .iaload, 1), (977, .invokevirtual 101, 3), (980, .if_icmp .eq 806, 3), (983, .iconst 0, 1), (984, .ireturn, 1)]
theorem dL20 : qDec (mLw iL20) := (by decide +kernel : ∀ q ∈ iL20, decode code q.1 = .ok q.2)
set_option maxRecDepth 20000 in
set_option maxHeartbeats 4000000 in
theorem lc_20 {G : QW} (hT : TB G) (hL : G.oL 0 ≤ 3072) {i : Int} (hi : 0 ≤ i) (hj : i + 6 ≤ (G.oL 0 : Int)) {m : AM} (h : Inv m) {cc cs : Nat} (hc : cc ≤ 10000) (hs : cs ≤ 1000000) (kk : ∀ (m2 : AM) (c2 s2 : Nat), Inv m2 → c2 ≤ cc + 9 → s2 ≤ cs + 235 → qJ G (mLw iLH) room_1 (LF G) 1786 (lawL i) [] m2 c2 s2) : qJ G (mLw iLH) room_1 (LF G) 932 (lawL i) [] m cc cs := by
  refine j_with dL20 ?_
  refine j_aload_n rfl rfl ?_
  refine j_arg rfl rfl rfl rfl rfl (by omega) (by omega) hL ?_
  refine j_arg rfl rfl rfl rfl rfl (by omega) (by omega) hL ?_
  refine j_arg rfl rfl rfl rfl rfl (by omega) (by omega) hL ?_
  refine j_arg rfl rfl rfl rfl rfl (by omega) (by omega) hL ?_
  refine j_callV (ci := 11) rfl okX11_far c_L_98 (ag_far h (ox1 _) (ox2 _) (ox1 _) (ox2 _) (ox1 _) (ox2 _) (ox1 _) (ox2 _)) rfl rfl (h.s.lt (by decide)) (h.s.k (by decide) (by decide)) (by decide) rfl (Nat.le_of_ble_eq_true rfl) (by decide) ⟨by show _ ≤ 600000; omega, by show _ ≤ 7302250; omega⟩ ?_
  rintro v m1 ⟨⟨t, a⟩, rfl, ht, hS, hM⟩
  have ht : t = 0 := ht
  subst ht
  simp only [Option.toList_some, List.cons_append, List.nil_append]
  refine j_aload_n rfl rfl ?_
  refine j_arg rfl rfl rfl rfl rfl (by omega) (by omega) hL ?_
  refine j_arg rfl rfl rfl rfl rfl (by omega) (by omega) hL ?_
  refine j_arg rfl rfl rfl rfl rfl (by omega) (by omega) hL ?_
  refine j_arg rfl rfl rfl rfl rfl (by omega) (by omega) hL ?_
  refine j_callV (ci := 12) rfl okX12_far c_L_101 hM rfl rfl (hS.lt (by decide)) (hS.k (by decide) (by decide)) (by decide) rfl (Nat.le_of_ble_eq_true rfl) (by decide) ⟨by show _ ≤ 600000; omega, by show _ ≤ 7302250; omega⟩ ?_
  rintro v2 m2 ⟨rfl, hI⟩
  simp only [Option.toList_some, List.cons_append, List.nil_append]
  refine j_icmp_same (tgt := 1786) rfl (by decide) ?_
  exact j_with dLH (kk _ _ _ hI (by omega) (by omega))

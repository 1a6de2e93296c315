theorem tw {w : Cond} (i : Nat) (h : tables_1[i]? = some w) (hg : goodWord w = true) : w ∈ tb := tb_of (List.mem_append_right _ (List.mem_of_getElem? h)) hg
theorem ts {w : Cond} (i : Nat) (h : (k2_sels lw_privs)[i]? = some w) (hg : goodWord w = true) : w ∈ tb := tb_of (List.mem_append_left _ (List.mem_of_getElem? h)) hg
theorem hin_X0 : ∀ w ∈ u_ws RX0 TX0 2, w ∈ tb := by
  intro w hw
  have h1 : u_ws RX0 TX0 2 = ([159, 161] : List Nat).filterMap (fun i => tables_1[i]?) := by decide +kernel
  have h2 : (u_ws RX0 TX0 2).all goodWord = true := by decide +kernel
  have hg := List.all_eq_true.mp h2 w hw
  rw [h1] at hw
  obtain ⟨i, -, hi⟩ := List.mem_filterMap.mp hw
  exact tw i hi hg
theorem iniX0 : Cond.initialized RX0 ∈ tb := tw 7 (by decide +kernel) rfl
theorem insX0 : Cond.instantiable RX0 2 ∈ tb := tw 150 (by decide +kernel) rfl
theorem hin_X1 : ∀ w ∈ u_ws RX1 TX1 6, w ∈ tb := by
  intro w hw
  have h1 : u_ws RX1 TX1 6 = ([438, 440, 442, 444, 446, 448] : List Nat).filterMap (fun i => tables_1[i]?) := by decide +kernel
  have h2 : (u_ws RX1 TX1 6).all goodWord = true := by decide +kernel
  have hg := List.all_eq_true.mp h2 w hw
  rw [h1] at hw
  obtain ⟨i, -, hi⟩ := List.mem_filterMap.mp hw
  exact tw i hi hg
theorem iniX1 : Cond.initialized RX1 ∈ tb := tw 14 (by decide +kernel) rfl
theorem insX1 : Cond.instantiable RX1 6 ∈ tb := tw 410 (by decide +kernel) rfl
theorem hin_X2 : ∀ w ∈ u_ws RX2 TX2 3, w ∈ tb := by
  intro w hw
  have h1 : u_ws RX2 TX2 3 = ([243, 245, 247] : List Nat).filterMap (fun i => tables_1[i]?) := by decide +kernel
  have h2 : (u_ws RX2 TX2 3).all goodWord = true := by decide +kernel
  have hg := List.all_eq_true.mp h2 w hw
  rw [h1] at hw
  obtain ⟨i, -, hi⟩ := List.mem_filterMap.mp hw
  exact tw i hi hg
theorem iniX2 : Cond.initialized RX2 ∈ tb := tw 10 (by decide +kernel) rfl
theorem insX2 : Cond.instantiable RX2 3 ∈ tb := tw 235 (by decide +kernel) rfl
theorem hin_X3 : ∀ w ∈ u_ws RX3 TX3 5, w ∈ tb := by
  intro w hw
  have h1 : u_ws RX3 TX3 5 = ([223, 225, 227, 229, 231] : List Nat).filterMap (fun i => tables_1[i]?) := by decide +kernel
  have h2 : (u_ws RX3 TX3 5).all goodWord = true := by decide +kernel
  have hg := List.all_eq_true.mp h2 w hw
  rw [h1] at hw
  obtain ⟨i, -, hi⟩ := List.mem_filterMap.mp hw
  exact tw i hi hg
theorem iniX3 : Cond.initialized RX3 ∈ tb := tw 9 (by decide +kernel) rfl
theorem insX3 : Cond.instantiable RX3 5 ∈ tb := tw 208 (by decide +kernel) rfl
theorem hin_X4 : ∀ w ∈ u_ws RX4 TX4 6, w ∈ tb := by
  intro w hw
  have h1 : u_ws RX4 TX4 6 = ([76, 78, 80, 82, 84, 86] : List Nat).filterMap (fun i => tables_1[i]?) := by decide +kernel
  have h2 : (u_ws RX4 TX4 6).all goodWord = true := by decide +kernel
  have hg := List.all_eq_true.mp h2 w hw
  rw [h1] at hw
  obtain ⟨i, -, hi⟩ := List.mem_filterMap.mp hw
  exact tw i hi hg
theorem iniX4 : Cond.initialized RX4 ∈ tb := tw 3 (by decide +kernel) rfl
theorem insX4 : Cond.instantiable RX4 6 ∈ tb := tw 57 (by decide +kernel) rfl
theorem hin_X5 : ∀ w ∈ u_ws RX5 TX5 9, w ∈ tb := by
  intro w hw
  have h1 : u_ws RX5 TX5 9 = ([292, 294, 296, 298, 300, 302, 304, 306, 308] : List Nat).filterMap (fun i => tables_1[i]?) := by decide +kernel
  have h2 : (u_ws RX5 TX5 9).all goodWord = true := by decide +kernel
  have hg := List.all_eq_true.mp h2 w hw
  rw [h1] at hw
  obtain ⟨i, -, hi⟩ := List.mem_filterMap.mp hw
  exact tw i hi hg
theorem iniX5 : Cond.initialized RX5 ∈ tb := tw 11 (by decide +kernel) rfl
theorem insX5 : Cond.instantiable RX5 9 ∈ tb := tw 251 (by decide +kernel) rfl
theorem hin_X6 : ∀ w ∈ u_ws RX6 TX6 5, w ∈ tb := by
  intro w hw
  have h1 : u_ws RX6 TX6 5 = ([38, 40, 42, 44, 46] : List Nat).filterMap (fun i => tables_1[i]?) := by decide +kernel
  have h2 : (u_ws RX6 TX6 5).all goodWord = true := by decide +kernel
  have hg := List.all_eq_true.mp h2 w hw
  rw [h1] at hw
  obtain ⟨i, -, hi⟩ := List.mem_filterMap.mp hw
  exact tw i hi hg
theorem iniX6 : Cond.initialized RX6 ∈ tb := tw 2 (by decide +kernel) rfl
theorem insX6 : Cond.instantiable RX6 5 ∈ tb := tw 27 (by decide +kernel) rfl
theorem hin_X7 : ∀ w ∈ u_ws RX7 TX7 5, w ∈ tb := by
  intro w hw
  have h1 : u_ws RX7 TX7 5 = ([325, 327, 329, 331, 333] : List Nat).filterMap (fun i => tables_1[i]?) := by decide +kernel
  have h2 : (u_ws RX7 TX7 5).all goodWord = true := by decide +kernel
  have hg := List.all_eq_true.mp h2 w hw
  rw [h1] at hw
  obtain ⟨i, -, hi⟩ := List.mem_filterMap.mp hw
  exact tw i hi hg
theorem iniX7 : Cond.initialized RX7 ∈ tb := tw 12 (by decide +kernel) rfl
theorem insX7 : Cond.instantiable RX7 5 ∈ tb := tw 311 (by decide +kernel) rfl
theorem hin_X8 : ∀ w ∈ u_ws RX8 TX8 5, w ∈ tb := by
  intro w hw
  have h1 : u_ws RX8 TX8 5 = ([100, 102, 104, 106, 108] : List Nat).filterMap (fun i => tables_1[i]?) := by decide +kernel
  have h2 : (u_ws RX8 TX8 5).all goodWord = true := by decide +kernel
  have hg := List.all_eq_true.mp h2 w hw
  rw [h1] at hw
  obtain ⟨i, -, hi⟩ := List.mem_filterMap.mp hw
  exact tw i hi hg
theorem iniX8 : Cond.initialized RX8 ∈ tb := tw 5 (by decide +kernel) rfl
theorem insX8 : Cond.instantiable RX8 5 ∈ tb := tw 90 (by decide +kernel) rfl
theorem hin_X9 : ∀ w ∈ u_ws RX9 TX9 8, w ∈ tb := by
  intro w hw
  have h1 : u_ws RX9 TX9 8 = ([191, 193, 195, 197, 199, 201, 203, 205] : List Nat).filterMap (fun i => tables_1[i]?) := by decide +kernel
  have h2 : (u_ws RX9 TX9 8).all goodWord = true := by decide +kernel
  have hg := List.all_eq_true.mp h2 w hw
  rw [h1] at hw
  obtain ⟨i, -, hi⟩ := List.mem_filterMap.mp hw
  exact tw i hi hg
theorem iniX9 : Cond.initialized RX9 ∈ tb := tw 8 (by decide +kernel) rfl
theorem insX9 : Cond.instantiable RX9 8 ∈ tb := tw 165 (by decide +kernel) rfl
theorem hin_X10 : ∀ w ∈ u_ws RX10 TX10 10, w ∈ tb := by
  intro w hw
  have h1 : u_ws RX10 TX10 10 = ([128, 130, 132, 134, 136, 138, 140, 142, 144, 146] : List Nat).filterMap (fun i => tables_1[i]?) := by decide +kernel
  have h2 : (u_ws RX10 TX10 10).all goodWord = true := by decide +kernel
  have hg := List.all_eq_true.mp h2 w hw
  rw [h1] at hw
  obtain ⟨i, -, hi⟩ := List.mem_filterMap.mp hw
  exact tw i hi hg
theorem iniX10 : Cond.initialized RX10 ∈ tb := tw 6 (by decide +kernel) rfl
theorem insX10 : Cond.instantiable RX10 10 ∈ tb := tw 113 (by decide +kernel) rfl
theorem hin_X11 : ∀ w ∈ u_ws RX11 TX11 20, w ∈ tb := by
  intro w hw
  have h1 : u_ws RX11 TX11 20 = ([357, 359, 361, 363, 365, 367, 369, 371, 373, 375, 377, 379, 381, 383, 385, 387, 389, 391, 393, 395] : List Nat).filterMap (fun i => tables_1[i]?) := by decide +kernel
  have h2 : (u_ws RX11 TX11 20).all goodWord = true := by decide +kernel
  have hg := List.all_eq_true.mp h2 w hw
  rw [h1] at hw
  obtain ⟨i, -, hi⟩ := List.mem_filterMap.mp hw
  exact tw i hi hg
theorem iniX11 : Cond.initialized RX11 ∈ tb := tw 1 (by decide +kernel) rfl
theorem insX11 : Cond.instantiable RX11 20 ∈ tb := tw 19 (by decide +kernel) rfl
theorem hin_X12 : ∀ w ∈ u_ws RX12 TX12 84, w ∈ tb := by
  intro w hw
  have h1 : u_ws RX12 TX12 84 = ([1170, 1172, 1174, 1176, 1178, 1180, 1182, 1184, 1186, 1188, 1190, 1192, 1194, 1196, 1198, 1200, 1202, 1204, 1206, 1208, 1210, 1212, 1214, 1216, 1218, 1220, 1222, 1224, 1226, 1228, 1230, 1232, 1234, 1236, 1238, 1240, 1242, 1244, 1246, 1248, 1250, 1252, 1254, 1256, 1258, 1260, 1262, 1264, 1266, 1268, 1270, 1272, 1274, 1276, 1278, 1280, 1282, 1284, 1286, 1288, 1290, 1292, 1294, 1296, 1298, 1300, 1302, 1304, 1306, 1308, 1310, 1312, 1314, 1316, 1318, 1320, 1322, 1324, 1326, 1328, 1330, 1332, 1334, 1336] : List Nat).filterMap (fun i => tables_1[i]?) := by decide +kernel
  have h2 : (u_ws RX12 TX12 84).all goodWord = true := by decide +kernel
  have hg := List.all_eq_true.mp h2 w hw
  rw [h1] at hw
  obtain ⟨i, -, hi⟩ := List.mem_filterMap.mp hw
  exact tw i hi hg
theorem iniX12 : Cond.initialized RX12 ∈ tb := tw 13 (by decide +kernel) rfl
theorem insX12 : Cond.instantiable RX12 84 ∈ tb := tw 1082 (by decide +kernel) rfl
theorem iniJ10 : Cond.initialized RJ10 ∈ tb := tw 16 (by decide +kernel) rfl
theorem iniJ6 : Cond.initialized RJ6 ∈ tb := tw 17 (by decide +kernel) rfl
theorem iniJ7 : Cond.initialized RJ7 ∈ tb := tw 4 (by decide +kernel) rfl
theorem iniJ9 : Cond.initialized RJ9 ∈ tb := tw 15 (by decide +kernel) rfl
theorem wa_int : Cond.arrayClass .int ∈ tb := tw 49 (by decide +kernel) rfl
theorem wa_long : Cond.arrayClass .long ∈ tb := tw 111 (by decide +kernel) rfl
theorem wa_byte : Cond.arrayClass .byte ∈ tb := tw 336 (by decide +kernel) rfl
theorem wa_boolean : Cond.arrayClass .boolean ∈ tb := tw 1339 (by decide +kernel) rfl
theorem w_obj1 : Cond.instanceMethod objectInit ∈ tb := tw 24 (by decide +kernel) rfl
theorem w_obj2 : Cond.code objectInit ⟨#[0xb1]⟩ 1 none ∈ tb := tw 25 (by decide +kernel) rfl

/-! new NarrowBox() -/
/-- nothing yet -/
def am0 : AM := (fun _ _ => 0, fun _ _ => 0, fun _ _ => none, fun _ => 0, fun _ => 0, 0)
def nb0 : AM := am_at am0 0 11 0
def nb1 : AM := (sr (iX6M (am_at nb0 1 6 0) 1) 0 0 (some 1))
def nb2 : AM := (sr (am_at nb1 3 17 6) 0 1 (some 3))
def nb3 : AM := (sr (am_at nb2 4 18 8) 0 2 (some 4))
def nb4 : AM := (sr (am_at nb3 5 19 6) 0 3 (some 5))
def nb5 : AM := (sr (iX4M (am_at nb4 6 4 0) 6) 0 4 (some 6))
def nb6 : AM := (sr (iX8M (am_at nb5 12 8 0) 12) 0 5 (some 12))
def nb7 : AM := (sr (iX10M (am_at nb6 17 10 0) 17) 0 6 (some 17))
def nb8 : AM := (sr (iX0M (am_at nb7 22 0 0) 22) 0 7 (some 22))
def nb9 : AM := (sr (iX9M (am_at nb8 24 9 0) 24) 0 8 (some 24))
def nb10 : AM := (sr (iX9M (am_at nb9 32 9 0) 32) 0 9 (some 32))
def nb11 : AM := (sr (iX9M (am_at nb10 40 9 0) 40) 0 10 (some 40))
def nb12 : AM := (sr (flI (am_at nb11 48 3 0) 48) 0 11 (some 48))
def nb13 : AM := (sr (am_at nb12 57 13 3) 0 12 (some 57))
def nb14 : AM := (sr (am_at nb13 58 13 8) 0 13 (some 58))
def nb15 : AM := (sr (iX2M (am_at nb14 59 2 0) 59) 0 14 (some 59))
def nb16 : AM := (sr (pgI (am_at nb15 62 5 0) 62) 0 15 (some 62))
def nb17 : AM := (si nb16 0 18 (-1))
def nb18 : AM := sr (iX7M (am_at nb17 68 7 0) 68) 5 0 (some 68)
def nb19 : AM := sr (iX7M (am_at nb18 71 7 0) 71) 5 1 (some 71)
def nb20 : AM := sr (iX7M (am_at nb19 74 7 0) 74) 5 2 (some 74)
def nb21 : AM := sr (iX7M (am_at nb20 77 7 0) 77) 5 3 (some 77)
def nb22 : AM := sr (iX7M (am_at nb21 80 7 0) 80) 5 4 (some 80)
def nb23 : AM := sr (iX7M (am_at nb22 83 7 0) 83) 5 5 (some 83)
set_option maxRecDepth 20000 in
set_option maxHeartbeats 4000000 in
theorem cq_X11_init {G : QW} : qM G mX11_init 4 85 3094 [vR 0] nb0 (fun r m' => r = none ∧ m' = nb23) := by
  refine qM.intro okX11_init (Nat.le_of_ble_eq_true rfl) ?_
  refine j_aload_n rfl rfl ?_
  refine j_obj rfl ob_X11_3 w_obj1 w_obj2 (by decide) (by decide) ?_
  refine j_aload_n rfl rfl ?_
  have hz : mz nb0 = 1 := by decide +kernel
  refine j_new (ci := 6) (q0 := (RX6, TX6, 5)) rfl rfl (by decide) rfl hin_X6 tyX6_ok dfX6 cl_X11_9 insX6 iniX6 (by decide) (by decide) ?_
  rw [hz, am_at_e hz]
  refine j_dup rfl (Nat.ne_of_beq_eq_false rfl) ?_
  refine j_callN rfl okX6_init c_X11_11 (cq_X6_init (m := (am_at nb0 1 6 0)) (o := 1) ⟨(by decide +kernel), (by decide +kernel)⟩ (by decide +kernel)) rfl rfl (Nat.le_of_ble_eq_true rfl) (by decide) (by decide) ?_
  rintro vq mq ⟨e1, e2⟩
  rw [e1, e2]
  clear e1 e2
  simp only [Option.toList_some, Option.toList_none, List.cons_append, List.nil_append]
  refine j_putFR rfl f_X11_12 rfl rfl (fun _ => ⟨rfl, rfl⟩) rfl (by decide +kernel) (by decide +kernel) ?_
  refine j_mem (m' := nb1) rfl ?_
  refine j_aload_n rfl rfl ?_
  refine j_bipush rfl (by decide) ?_
  have hz : mz nb1 = 3 := by decide +kernel
  refine j_newQ (n := 6) rfl cl_X11_16 el17 (by decide) (by decide) (by decide) ?_
  rw [hz, am_at_e hz]
  refine j_putFR rfl f_X11_18 rfl rfl (fun _ => ⟨rfl, rfl⟩) rfl (by decide +kernel) (by decide +kernel) ?_
  refine j_mem (m' := nb2) rfl ?_
  refine j_aload_n rfl rfl ?_
  refine j_bipush rfl (by decide) ?_
  have hz : mz nb2 = 4 := by decide +kernel
  refine j_newQ (n := 8) rfl cl_X11_22 el18 (by decide) (by decide) (by decide) ?_
  rw [hz, am_at_e hz]
  refine j_putFR rfl f_X11_24 rfl rfl (fun _ => ⟨rfl, rfl⟩) rfl (by decide +kernel) (by decide +kernel) ?_
  refine j_mem (m' := nb3) rfl ?_
  refine j_aload_n rfl rfl ?_
  refine j_bipush rfl (by decide) ?_
  have hz : mz nb3 = 5 := by decide +kernel
  refine j_newQ (n := 6) rfl cl_X11_28 el19 (by decide) (by decide) (by decide) ?_
  rw [hz, am_at_e hz]
  refine j_putFR rfl f_X11_30 rfl rfl (fun _ => ⟨rfl, rfl⟩) rfl (by decide +kernel) (by decide +kernel) ?_
  refine j_mem (m' := nb4) rfl ?_
  refine j_aload_n rfl rfl ?_
  have hz : mz nb4 = 6 := by decide +kernel
  refine j_new (ci := 4) (q0 := (RX4, TX4, 6)) rfl rfl (by decide) rfl hin_X4 tyX4_ok dfX4 cl_X11_34 insX4 iniX4 (by decide) (by decide) ?_
  rw [hz, am_at_e hz]
  refine j_dup rfl (Nat.ne_of_beq_eq_false rfl) ?_
  refine j_callI rfl okX4_init c_X11_36 (cq_X4_init (m := (am_at nb4 6 4 0)) (o := 6) ⟨(by decide +kernel), (by decide +kernel)⟩ (by decide +kernel)) rfl rfl (Nat.le_of_ble_eq_true rfl) (by decide) (by decide) ?_
  rintro vq mq ⟨e1, e2⟩
  rw [e1, e2]
  clear e1 e2
  simp only [Option.toList_some, Option.toList_none, List.cons_append, List.nil_append]
  refine j_putFR rfl f_X11_37 rfl rfl (fun _ => ⟨rfl, rfl⟩) rfl (by decide +kernel) (by decide +kernel) ?_
  refine j_mem (m' := nb5) rfl ?_
  refine j_aload_n rfl rfl ?_
  have hz : mz nb5 = 12 := by decide +kernel
  refine j_new (ci := 8) (q0 := (RX8, TX8, 5)) rfl rfl (by decide) rfl hin_X8 tyX8_ok dfX8 cl_X11_41 insX8 iniX8 (by decide) (by decide) ?_
  rw [hz, am_at_e hz]
  refine j_dup rfl (Nat.ne_of_beq_eq_false rfl) ?_
  refine j_callN rfl okX8_init c_X11_43 (cq_X8_init (m := (am_at nb5 12 8 0)) (o := 12) ⟨(by decide +kernel), (by decide +kernel)⟩ (by decide +kernel)) rfl rfl (Nat.le_of_ble_eq_true rfl) (by decide) (by decide) ?_
  rintro vq mq ⟨e1, e2⟩
  rw [e1, e2]
  clear e1 e2
  simp only [Option.toList_some, Option.toList_none, List.cons_append, List.nil_append]
  refine j_putFR rfl f_X11_44 rfl rfl (fun _ => ⟨rfl, rfl⟩) rfl (by decide +kernel) (by decide +kernel) ?_
  refine j_mem (m' := nb6) rfl ?_
  refine j_aload_n rfl rfl ?_
  have hz : mz nb6 = 17 := by decide +kernel
  refine j_new (ci := 10) (q0 := (RX10, TX10, 10)) rfl rfl (by decide) rfl hin_X10 tyX10_ok dfX10 cl_X11_48 insX10 iniX10 (by decide) (by decide) ?_
  rw [hz, am_at_e hz]
  refine j_dup rfl (Nat.ne_of_beq_eq_false rfl) ?_
  refine j_callN rfl okX10_init c_X11_50 (cq_X10_init (m := (am_at nb6 17 10 0)) (o := 17) ⟨(by decide +kernel), (by decide +kernel)⟩ (by decide +kernel)) rfl rfl (Nat.le_of_ble_eq_true rfl) (by decide) (by decide) ?_
  rintro vq mq ⟨e1, e2⟩
  rw [e1, e2]
  clear e1 e2
  simp only [Option.toList_some, Option.toList_none, List.cons_append, List.nil_append]
  refine j_putFR rfl f_X11_51 rfl rfl (fun _ => ⟨rfl, rfl⟩) rfl (by decide +kernel) (by decide +kernel) ?_
  refine j_mem (m' := nb7) rfl ?_
  refine j_aload_n rfl rfl ?_
  have hz : mz nb7 = 22 := by decide +kernel
  refine j_new (ci := 0) (q0 := (RX0, TX0, 2)) rfl rfl (by decide) rfl hin_X0 tyX0_ok dfX0 cl_X11_55 insX0 iniX0 (by decide) (by decide) ?_
  rw [hz, am_at_e hz]
  refine j_dup rfl (Nat.ne_of_beq_eq_false rfl) ?_
  refine j_callN rfl okX0_init c_X11_57 (cq_X0_init (m := (am_at nb7 22 0 0)) (o := 22) ⟨(by decide +kernel), (by decide +kernel)⟩ (by decide +kernel)) rfl rfl (Nat.le_of_ble_eq_true rfl) (by decide) (by decide) ?_
  rintro vq mq ⟨e1, e2⟩
  rw [e1, e2]
  clear e1 e2
  simp only [Option.toList_some, Option.toList_none, List.cons_append, List.nil_append]
  refine j_putFR rfl f_X11_58 rfl rfl (fun _ => ⟨rfl, rfl⟩) rfl (by decide +kernel) (by decide +kernel) ?_
  refine j_mem (m' := nb8) rfl ?_
  refine j_aload_n rfl rfl ?_
  have hz : mz nb8 = 24 := by decide +kernel
  refine j_new (ci := 9) (q0 := (RX9, TX9, 8)) rfl rfl (by decide) rfl hin_X9 tyX9_ok dfX9 cl_X11_62 insX9 iniX9 (by decide) (by decide) ?_
  rw [hz, am_at_e hz]
  refine j_dup rfl (Nat.ne_of_beq_eq_false rfl) ?_
  refine j_callN rfl okX9_init c_X11_64 (cq_X9_init (m := (am_at nb8 24 9 0)) (o := 24) ⟨(by decide +kernel), (by decide +kernel)⟩ (by decide +kernel)) rfl rfl (Nat.le_of_ble_eq_true rfl) (by decide) (by decide) ?_
  rintro vq mq ⟨e1, e2⟩
  rw [e1, e2]
  clear e1 e2
  simp only [Option.toList_some, Option.toList_none, List.cons_append, List.nil_append]
  refine j_putFR rfl f_X11_65 rfl rfl (fun _ => ⟨rfl, rfl⟩) rfl (by decide +kernel) (by decide +kernel) ?_
  refine j_mem (m' := nb9) rfl ?_
  refine j_aload_n rfl rfl ?_
  have hz : mz nb9 = 32 := by decide +kernel
  refine j_new (ci := 9) (q0 := (RX9, TX9, 8)) rfl rfl (by decide) rfl hin_X9 tyX9_ok dfX9 cl_X11_62 insX9 iniX9 (by decide) (by decide) ?_
  rw [hz, am_at_e hz]
  refine j_dup rfl (Nat.ne_of_beq_eq_false rfl) ?_
  refine j_callN rfl okX9_init c_X11_64 (cq_X9_init (m := (am_at nb9 32 9 0)) (o := 32) ⟨(by decide +kernel), (by decide +kernel)⟩ (by decide +kernel)) rfl rfl (Nat.le_of_ble_eq_true rfl) (by decide) (by decide) ?_
  rintro vq mq ⟨e1, e2⟩
  rw [e1, e2]
  clear e1 e2
  simp only [Option.toList_some, Option.toList_none, List.cons_append, List.nil_append]
  refine j_putFR rfl f_X11_69 rfl rfl (fun _ => ⟨rfl, rfl⟩) rfl (by decide +kernel) (by decide +kernel) ?_
  refine j_mem (m' := nb10) rfl ?_
  refine j_aload_n rfl rfl ?_
  have hz : mz nb10 = 40 := by decide +kernel
  refine j_new (ci := 9) (q0 := (RX9, TX9, 8)) rfl rfl (by decide) rfl hin_X9 tyX9_ok dfX9 cl_X11_62 insX9 iniX9 (by decide) (by decide) ?_
  rw [hz, am_at_e hz]
  refine j_dup rfl (Nat.ne_of_beq_eq_false rfl) ?_
  refine j_callN rfl okX9_init c_X11_64 (cq_X9_init (m := (am_at nb10 40 9 0)) (o := 40) ⟨(by decide +kernel), (by decide +kernel)⟩ (by decide +kernel)) rfl rfl (Nat.le_of_ble_eq_true rfl) (by decide) (by decide) ?_
  rintro vq mq ⟨e1, e2⟩
  rw [e1, e2]
  clear e1 e2
  simp only [Option.toList_some, Option.toList_none, List.cons_append, List.nil_append]
  refine j_putFR rfl f_X11_72 rfl rfl (fun _ => ⟨rfl, rfl⟩) rfl (by decide +kernel) (by decide +kernel) ?_
  refine j_mem (m' := nb11) rfl ?_
  refine j_aload_n rfl rfl ?_
  have hz : mz nb11 = 48 := by decide +kernel
  refine j_new (ci := 3) (q0 := (RX3, TX3, 5)) rfl rfl (by decide) rfl hin_X3 tyX3_ok dfX3 cl_X11_22 insX3 iniX3 (by decide) (by decide) ?_
  rw [hz, am_at_e hz]
  refine j_dup rfl (Nat.ne_of_beq_eq_false rfl) ?_
  refine j_callI rfl okX3_init c_X11_75 (ct_X3_init (m := (am_at nb11 48 3 0)) (x := 48) ⟨(by decide +kernel), (by decide +kernel)⟩ (by decide +kernel)) rfl rfl (Nat.le_of_ble_eq_true rfl) (by decide) (by decide) ?_
  rintro vq mq ⟨e1, e2⟩
  rw [e1, e2]
  clear e1 e2
  simp only [Option.toList_some, Option.toList_none, List.cons_append, List.nil_append]
  refine j_putFR rfl f_X11_76 rfl rfl (fun _ => ⟨rfl, rfl⟩) rfl (by decide +kernel) (by decide +kernel) ?_
  refine j_mem (m' := nb12) rfl ?_
  refine j_aload_n rfl rfl ?_
  refine j_iconst rfl ?_
  have hz : mz nb12 = 57 := by decide +kernel
  refine j_newI (n := 3) rfl wa_int (by decide) (by decide) (by decide) ?_
  rw [hz, am_at_e hz]
  refine j_putFR rfl f_X11_80 rfl rfl (fun _ => ⟨rfl, rfl⟩) rfl (by decide +kernel) (by decide +kernel) ?_
  refine j_mem (m' := nb13) rfl ?_
  refine j_aload_n rfl rfl ?_
  refine j_bipush rfl (by decide) ?_
  have hz : mz nb13 = 58 := by decide +kernel
  refine j_newI (n := 8) rfl wa_int (by decide) (by decide) (by decide) ?_
  rw [hz, am_at_e hz]
  refine j_putFR rfl f_X11_84 rfl rfl (fun _ => ⟨rfl, rfl⟩) rfl (by decide +kernel) (by decide +kernel) ?_
  refine j_mem (m' := nb14) rfl ?_
  refine j_aload_n rfl rfl ?_
  have hz : mz nb14 = 59 := by decide +kernel
  refine j_new (ci := 2) (q0 := (RX2, TX2, 3)) rfl rfl (by decide) rfl hin_X2 tyX2_ok dfX2 cl_X11_87 insX2 iniX2 (by decide) (by decide) ?_
  rw [hz, am_at_e hz]
  refine j_dup rfl (Nat.ne_of_beq_eq_false rfl) ?_
  refine j_callN rfl okX2_init c_X11_89 (cq_X2_init (m := (am_at nb14 59 2 0)) (o := 59) ⟨(by decide +kernel), (by decide +kernel)⟩ (by decide +kernel)) rfl rfl (Nat.le_of_ble_eq_true rfl) (by decide) (by decide) ?_
  rintro vq mq ⟨e1, e2⟩
  rw [e1, e2]
  clear e1 e2
  simp only [Option.toList_some, Option.toList_none, List.cons_append, List.nil_append]
  refine j_putFR rfl f_X11_90 rfl rfl (fun _ => ⟨rfl, rfl⟩) rfl (by decide +kernel) (by decide +kernel) ?_
  refine j_mem (m' := nb15) rfl ?_
  refine j_aload_n rfl rfl ?_
  have hz : mz nb15 = 62 := by decide +kernel
  refine j_new (ci := 5) (q0 := (RX5, TX5, 9)) rfl rfl (by decide) rfl hin_X5 tyX5_ok dfX5 cl_X11_94 insX5 iniX5 (by decide) (by decide) ?_
  rw [hz, am_at_e hz]
  refine j_dup rfl (Nat.ne_of_beq_eq_false rfl) ?_
  refine j_callN rfl okX5_init c_X11_96 (ct_X5_init (m := (am_at nb15 62 5 0)) (o := 62) ⟨(by decide +kernel), (by decide +kernel)⟩ (by decide +kernel)) rfl rfl (Nat.le_of_ble_eq_true rfl) (by decide) (by decide) ?_
  rintro vq mq ⟨e1, e2⟩
  rw [e1, e2]
  clear e1 e2
  simp only [Option.toList_some, Option.toList_none, List.cons_append, List.nil_append]
  refine j_putR rfl f_X11_97 (fun _ => ⟨rfl, rfl⟩) rfl (by decide +kernel) (by decide +kernel) ?_
  refine j_mem (m' := nb16) rfl ?_
  refine j_aload_n rfl rfl ?_
  refine j_iconst rfl ?_
  refine j_putI rfl f_X11_101 rfl (by decide +kernel) (by decide +kernel) ?_
  refine j_mem (m' := nb17) rfl ?_
  refine j_iconst rfl ?_
  refine j_istore_n rfl (by decide) ?_
  refine j_iload_n rfl rfl ?_
  refine j_bipush rfl (by decide) ?_
  refine j_icmp_ge (tgt := 199) rfl (by decide) (by decide) (by decide) (by decide) (by decide) (fun h => absurd h (by decide)) (fun _ => ?_)
  refine j_aload_n rfl rfl ?_
  refine j_getR (q := 5) rfl f_X11_30 rfl (by decide +kernel) (by decide +kernel) (by decide +kernel) ?_
  refine j_iload_n rfl rfl ?_
  have hz : mz nb17 = 68 := by decide +kernel
  refine j_new (ci := 7) (q0 := (RX7, TX7, 5)) rfl rfl (by decide) rfl hin_X7 tyX7_ok dfX7 cl_X11_28 insX7 iniX7 (by decide) (by decide) ?_
  rw [hz, am_at_e hz]
  refine j_dup rfl (Nat.ne_of_beq_eq_false rfl) ?_
  refine j_callN rfl okX7_init c_X11_105 (cq_X7_init (m := (am_at nb17 68 7 0)) (o := 68) ⟨(by decide +kernel), (by decide +kernel)⟩ (by decide +kernel)) rfl rfl (Nat.le_of_ble_eq_true rfl) (by decide) (by decide) ?_
  rintro vq mq ⟨e1, e2⟩
  rw [e1, e2]
  clear e1 e2
  simp only [Option.toList_some, Option.toList_none, List.cons_append, List.nil_append]
  refine j_aast (k := 19) (n := 6) (ci := 7) (r := (RX7, TX7, 5)) rfl (by decide +kernel) (by decide +kernel) (by decide +kernel) (by decide) (by decide) (by decide) (by decide +kernel) (by decide +kernel) (by decide) rfl el19 ?_
  refine j_mem (m' := nb18) (by rfl) ?_
  refine j_iinc rfl rfl (by decide) ?_
  refine j_goto (tgt := 174) rfl (by decide) ?_
  refine j_loc (ls' := [(0, vR 0), (1, vI 1)]) rfl ?_
  refine j_iload_n rfl rfl ?_
  refine j_bipush rfl (by decide) ?_
  refine j_icmp_ge (tgt := 199) rfl (by decide) (by decide) (by decide) (by decide) (by decide) (fun h => absurd h (by decide)) (fun _ => ?_)
  refine j_aload_n rfl rfl ?_
  refine j_getR (q := 5) rfl f_X11_30 rfl (by decide +kernel) (by decide +kernel) (by decide +kernel) ?_
  refine j_iload_n rfl rfl ?_
  have hz : mz nb18 = 71 := by decide +kernel
  refine j_new (ci := 7) (q0 := (RX7, TX7, 5)) rfl rfl (by decide) rfl hin_X7 tyX7_ok dfX7 cl_X11_28 insX7 iniX7 (by decide) (by decide) ?_
  rw [hz, am_at_e hz]
  refine j_dup rfl (Nat.ne_of_beq_eq_false rfl) ?_
  refine j_callN rfl okX7_init c_X11_105 (cq_X7_init (m := (am_at nb18 71 7 0)) (o := 71) ⟨(by decide +kernel), (by decide +kernel)⟩ (by decide +kernel)) rfl rfl (Nat.le_of_ble_eq_true rfl) (by decide) (by decide) ?_
  rintro vq mq ⟨e1, e2⟩
  rw [e1, e2]
  clear e1 e2
  simp only [Option.toList_some, Option.toList_none, List.cons_append, List.nil_append]
  refine j_aast (k := 19) (n := 6) (ci := 7) (r := (RX7, TX7, 5)) rfl (by decide +kernel) (by decide +kernel) (by decide +kernel) (by decide) (by decide) (by decide) (by decide +kernel) (by decide +kernel) (by decide) rfl el19 ?_
  refine j_mem (m' := nb19) (by rfl) ?_
  refine j_iinc rfl rfl (by decide) ?_
  refine j_goto (tgt := 174) rfl (by decide) ?_
  refine j_loc (ls' := [(0, vR 0), (1, vI 2)]) rfl ?_
  refine j_iload_n rfl rfl ?_
  refine j_bipush rfl (by decide) ?_
  refine j_icmp_ge (tgt := 199) rfl (by decide) (by decide) (by decide) (by decide) (by decide) (fun h => absurd h (by decide)) (fun _ => ?_)
  refine j_aload_n rfl rfl ?_
  refine j_getR (q := 5) rfl f_X11_30 rfl (by decide +kernel) (by decide +kernel) (by decide +kernel) ?_
  refine j_iload_n rfl rfl ?_
  have hz : mz nb19 = 74 := by decide +kernel
  refine j_new (ci := 7) (q0 := (RX7, TX7, 5)) rfl rfl (by decide) rfl hin_X7 tyX7_ok dfX7 cl_X11_28 insX7 iniX7 (by decide) (by decide) ?_
  rw [hz, am_at_e hz]
  refine j_dup rfl (Nat.ne_of_beq_eq_false rfl) ?_
  refine j_callN rfl okX7_init c_X11_105 (cq_X7_init (m := (am_at nb19 74 7 0)) (o := 74) ⟨(by decide +kernel), (by decide +kernel)⟩ (by decide +kernel)) rfl rfl (Nat.le_of_ble_eq_true rfl) (by decide) (by decide) ?_
  rintro vq mq ⟨e1, e2⟩
  rw [e1, e2]
  clear e1 e2
  simp only [Option.toList_some, Option.toList_none, List.cons_append, List.nil_append]
  refine j_aast (k := 19) (n := 6) (ci := 7) (r := (RX7, TX7, 5)) rfl (by decide +kernel) (by decide +kernel) (by decide +kernel) (by decide) (by decide) (by decide) (by decide +kernel) (by decide +kernel) (by decide) rfl el19 ?_
  refine j_mem (m' := nb20) (by rfl) ?_
  refine j_iinc rfl rfl (by decide) ?_
  refine j_goto (tgt := 174) rfl (by decide) ?_
  refine j_loc (ls' := [(0, vR 0), (1, vI 3)]) rfl ?_
  refine j_iload_n rfl rfl ?_
  refine j_bipush rfl (by decide) ?_
  refine j_icmp_ge (tgt := 199) rfl (by decide) (by decide) (by decide) (by decide) (by decide) (fun h => absurd h (by decide)) (fun _ => ?_)
  refine j_aload_n rfl rfl ?_
  refine j_getR (q := 5) rfl f_X11_30 rfl (by decide +kernel) (by decide +kernel) (by decide +kernel) ?_
  refine j_iload_n rfl rfl ?_
  have hz : mz nb20 = 77 := by decide +kernel
  refine j_new (ci := 7) (q0 := (RX7, TX7, 5)) rfl rfl (by decide) rfl hin_X7 tyX7_ok dfX7 cl_X11_28 insX7 iniX7 (by decide) (by decide) ?_
  rw [hz, am_at_e hz]
  refine j_dup rfl (Nat.ne_of_beq_eq_false rfl) ?_
  refine j_callN rfl okX7_init c_X11_105 (cq_X7_init (m := (am_at nb20 77 7 0)) (o := 77) ⟨(by decide +kernel), (by decide +kernel)⟩ (by decide +kernel)) rfl rfl (Nat.le_of_ble_eq_true rfl) (by decide) (by decide) ?_
  rintro vq mq ⟨e1, e2⟩
  rw [e1, e2]
  clear e1 e2
  simp only [Option.toList_some, Option.toList_none, List.cons_append, List.nil_append]
  refine j_aast (k := 19) (n := 6) (ci := 7) (r := (RX7, TX7, 5)) rfl (by decide +kernel) (by decide +kernel) (by decide +kernel) (by decide) (by decide) (by decide) (by decide +kernel) (by decide +kernel) (by decide) rfl el19 ?_
  refine j_mem (m' := nb21) (by rfl) ?_
  refine j_iinc rfl rfl (by decide) ?_
  refine j_goto (tgt := 174) rfl (by decide) ?_
  refine j_loc (ls' := [(0, vR 0), (1, vI 4)]) rfl ?_
  refine j_iload_n rfl rfl ?_
  refine j_bipush rfl (by decide) ?_
  refine j_icmp_ge (tgt := 199) rfl (by decide) (by decide) (by decide) (by decide) (by decide) (fun h => absurd h (by decide)) (fun _ => ?_)
  refine j_aload_n rfl rfl ?_
  refine j_getR (q := 5) rfl f_X11_30 rfl (by decide +kernel) (by decide +kernel) (by decide +kernel) ?_
  refine j_iload_n rfl rfl ?_
  have hz : mz nb21 = 80 := by decide +kernel
  refine j_new (ci := 7) (q0 := (RX7, TX7, 5)) rfl rfl (by decide) rfl hin_X7 tyX7_ok dfX7 cl_X11_28 insX7 iniX7 (by decide) (by decide) ?_
  rw [hz, am_at_e hz]
  refine j_dup rfl (Nat.ne_of_beq_eq_false rfl) ?_
  refine j_callN rfl okX7_init c_X11_105 (cq_X7_init (m := (am_at nb21 80 7 0)) (o := 80) ⟨(by decide +kernel), (by decide +kernel)⟩ (by decide +kernel)) rfl rfl (Nat.le_of_ble_eq_true rfl) (by decide) (by decide) ?_
  rintro vq mq ⟨e1, e2⟩
  rw [e1, e2]
  clear e1 e2
  simp only [Option.toList_some, Option.toList_none, List.cons_append, List.nil_append]
  refine j_aast (k := 19) (n := 6) (ci := 7) (r := (RX7, TX7, 5)) rfl (by decide +kernel) (by decide +kernel) (by decide +kernel) (by decide) (by decide) (by decide) (by decide +kernel) (by decide +kernel) (by decide) rfl el19 ?_
  refine j_mem (m' := nb22) (by rfl) ?_
  refine j_iinc rfl rfl (by decide) ?_
  refine j_goto (tgt := 174) rfl (by decide) ?_
  refine j_loc (ls' := [(0, vR 0), (1, vI 5)]) rfl ?_
  refine j_iload_n rfl rfl ?_
  refine j_bipush rfl (by decide) ?_
  refine j_icmp_ge (tgt := 199) rfl (by decide) (by decide) (by decide) (by decide) (by decide) (fun h => absurd h (by decide)) (fun _ => ?_)
  refine j_aload_n rfl rfl ?_
  refine j_getR (q := 5) rfl f_X11_30 rfl (by decide +kernel) (by decide +kernel) (by decide +kernel) ?_
  refine j_iload_n rfl rfl ?_
  have hz : mz nb22 = 83 := by decide +kernel
  refine j_new (ci := 7) (q0 := (RX7, TX7, 5)) rfl rfl (by decide) rfl hin_X7 tyX7_ok dfX7 cl_X11_28 insX7 iniX7 (by decide) (by decide) ?_
  rw [hz, am_at_e hz]
  refine j_dup rfl (Nat.ne_of_beq_eq_false rfl) ?_
  refine j_callN rfl okX7_init c_X11_105 (cq_X7_init (m := (am_at nb22 83 7 0)) (o := 83) ⟨(by decide +kernel), (by decide +kernel)⟩ (by decide +kernel)) rfl rfl (Nat.le_of_ble_eq_true rfl) (by decide) (by decide) ?_
  rintro vq mq ⟨e1, e2⟩
  rw [e1, e2]
  clear e1 e2
  simp only [Option.toList_some, Option.toList_none, List.cons_append, List.nil_append]
  refine j_aast (k := 19) (n := 6) (ci := 7) (r := (RX7, TX7, 5)) rfl (by decide +kernel) (by decide +kernel) (by decide +kernel) (by decide) (by decide) (by decide) (by decide +kernel) (by decide +kernel) (by decide) rfl el19 ?_
  refine j_mem (m' := nb23) (by rfl) ?_
  refine j_iinc rfl rfl (by decide) ?_
  refine j_goto (tgt := 174) rfl (by decide) ?_
  refine j_loc (ls' := [(0, vR 0), (1, vI 6)]) rfl ?_
  refine j_iload_n rfl rfl ?_
  refine j_bipush rfl (by decide) ?_
  refine j_icmp_ge (tgt := 199) rfl (by decide) (by decide) (by decide) (by decide) (by decide) (fun _ => ?_) (fun h => absurd (by decide) h)
  refine j_vret rfl rfl ?_ rfl (Nat.le_of_ble_eq_true rfl)
  exact ⟨rfl, rfl⟩

/-! new NarrowBoxModel() -/
def mo0 : AM := am_at nb23 86 12 0
def mo1 : AM := sr (am_at mo0 87 13 6) 86 2 (some 87)
def mo2 : AM := sr (am_at mo1 88 13 48) 86 3 (some 88)
def mo3 : AM := sr (am_at mo2 89 13 24) 86 4 (some 89)
def mo4 : AM := sr (si (si (si (si (si (si (am_at mo3 90 13 6) 90 0 (-1)) 90 1 (-1)) 90 2 (-1)) 90 3 (-1)) 90 4 (-1)) 90 5 (-1)) 86 5 (some 90)
def mo5 : AM := sr (am_at mo4 91 13 7) 86 6 (some 91)
def mo6 : AM := sr (am_at mo5 92 16 84) 86 7 (some 92)
def mo7 : AM := sr (am_at mo6 93 16 84) 86 8 (some 93)
def mo8 : AM := sr (am_at mo7 94 13 84) 86 9 (some 94)
def mo9 : AM := sr (am_at mo8 95 13 84) 86 10 (some 95)
def mo10 : AM := sr (am_at mo9 96 13 84) 86 11 (some 96)
def mo11 : AM := sr (am_at mo10 97 13 84) 86 12 (some 97)
def mo12 : AM := sr (am_at mo11 98 15 1190) 86 13 (some 98)
def mo13 : AM := sr (am_at mo12 99 13 1190) 86 14 (some 99)
def mo14 : AM := sr (am_at mo13 100 15 160) 86 15 (some 100)
def mo15 : AM := sr (am_at mo14 101 13 24) 86 22 (some 101)
def mo16 : AM := sr (am_at mo15 102 13 24) 86 23 (some 102)
def mo17 : AM := sr (am_at mo16 103 13 24) 86 24 (some 103)
def mo18 : AM := sr (am_at mo17 104 13 24) 86 25 (some 104)
def mo19 : AM := sr (am_at mo18 105 13 4800) 86 26 (some 105)
def mo20 : AM := sr (am_at mo19 106 13 48) 86 27 (some 106)
def mo21 : AM := sr (am_at mo20 107 13 24) 86 28 (some 107)
def mo22 : AM := sr (am_at mo21 108 13 24) 86 29 (some 108)
def mo23 : AM := sr (am_at mo22 109 13 24) 86 30 (some 109)
def mo24 : AM := sr (am_at mo23 110 13 24) 86 31 (some 110)
def mo25 : AM := sr (am_at mo24 111 16 6) 86 32 (some 111)
def mo26 : AM := sr (am_at mo25 112 13 6) 86 33 (some 112)
def mo27 : AM := sr (am_at mo26 113 13 6) 86 34 (some 113)
def mo28 : AM := sr (am_at mo27 114 13 3) 86 41 (some 114)
def mo29 : AM := sr (am_at mo28 115 14 170) 86 42 (some 115)
def mo30 : AM := sr (am_at mo29 116 13 48) 86 52 (some 116)
def mo31 : AM := sr (am_at mo30 117 13 24) 86 53 (some 117)
def mo32 : AM := sr (am_at mo31 118 13 24) 86 54 (some 118)
def mo33 : AM := sr (am_at mo32 119 16 6) 86 55 (some 119)
def mo34 : AM := sr (am_at mo33 120 13 6) 86 56 (some 120)
def mo35 : AM := sr (am_at mo34 121 13 6) 86 57 (some 121)
def mo36 : AM := sr (am_at mo35 122 13 4) 86 58 (some 122)
def mo37 : AM := sr (am_at mo36 123 13 6) 86 59 (some 123)
def mo38 : AM := sr (am_at mo37 124 13 6) 86 60 (some 124)
def mo39 : AM := sr (am_at mo38 125 13 3) 86 61 (some 125)
def mo40 : AM := sr (am_at mo39 126 14 170) 86 63 (some 126)
def mo41 : AM := sr (am_at mo40 127 14 170) 86 64 (some 127)
def mo42 : AM := sr (am_at mo41 128 13 48) 86 65 (some 128)
def mo43 : AM := sr (am_at mo42 129 13 24) 86 66 (some 129)
def mo44 : AM := sr (am_at mo43 130 13 24) 86 67 (some 130)
def mo45 : AM := sr (am_at mo44 131 16 6) 86 68 (some 131)
def mo46 : AM := sr (am_at mo45 132 13 8) 86 69 (some 132)
def mo47 : AM := sr (am_at mo46 133 13 20) 86 71 (some 133)
def mo48 : AM := sr (am_at mo47 134 13 20) 86 72 (some 134)
def mo49 : AM := sr (am_at mo48 135 13 20) 86 73 (some 135)
def mo50 : AM := sr (am_at mo49 136 13 40) 86 74 (some 136)
def mo51 : AM := sr (am_at mo50 137 13 240) 86 75 (some 137)
def mo52 : AM := sr (am_at mo51 138 13 24) 86 77 (some 138)
def mo53 : AM := sr (si (si (si (si (si (si (am_at mo52 139 13 6) 139 0 (-1)) 139 1 (-1)) 139 2 (-1)) 139 3 (-1)) 139 4 (-1)) 139 5 (-1)) 86 78 (some 139)
def mo54 : AM := sr (am_at mo53 140 13 6) 86 79 (some 140)
def mo55 : AM := sr (am_at mo54 141 14 360) 86 80 (some 141)
def mo56 : AM := sr (am_at mo55 142 16 360) 86 81 (some 142)
def mo57 : AM := sr (am_at mo56 143 14 60) 86 82 (some 143)
def mo58 : AM := sr (am_at mo57 144 16 60) 86 83 (some 144)
set_option maxRecDepth 20000 in
set_option maxHeartbeats 4000000 in
theorem cq_X12_init {G : QW} : qM G mX12_init 2 58 10165 [vR 86] mo0 (fun r m' => r = none ∧ m' = mo58) := by
  refine qM.intro okX12_init (Nat.le_of_ble_eq_true rfl) ?_
  refine j_aload_n rfl rfl ?_
  refine j_obj rfl ob_X12_1 w_obj1 w_obj2 (by decide) (by decide) ?_
  refine j_aload_n rfl rfl ?_
  refine j_bipush rfl (by decide) ?_
  have hz : mz mo0 = 87 := by decide +kernel
  refine j_newI (n := 6) rfl wa_int (by decide) (by decide) (by decide) ?_
  rw [hz, am_at_e hz]
  refine j_putFR rfl f_X12_7 rfl rfl (fun _ => ⟨rfl, rfl⟩) rfl (by decide +kernel) (by decide +kernel) ?_
  refine j_mem (m' := mo1) (by rfl) ?_
  refine j_aload_n rfl rfl ?_
  refine j_bipush rfl (by decide) ?_
  have hz : mz mo1 = 88 := by decide +kernel
  refine j_newI (n := 48) rfl wa_int (by decide) (by decide) (by decide) ?_
  rw [hz, am_at_e hz]
  refine j_putFR rfl f_X12_13 rfl rfl (fun _ => ⟨rfl, rfl⟩) rfl (by decide +kernel) (by decide +kernel) ?_
  refine j_mem (m' := mo2) (by rfl) ?_
  refine j_aload_n rfl rfl ?_
  refine j_bipush rfl (by decide) ?_
  have hz : mz mo2 = 89 := by decide +kernel
  refine j_newI (n := 24) rfl wa_int (by decide) (by decide) (by decide) ?_
  rw [hz, am_at_e hz]
  refine j_putFR rfl f_X12_16 rfl rfl (fun _ => ⟨rfl, rfl⟩) rfl (by decide +kernel) (by decide +kernel) ?_
  refine j_mem (m' := mo3) (by rfl) ?_
  refine j_aload_n rfl rfl ?_
  refine j_bipush rfl (by decide) ?_
  have hz : mz mo3 = 90 := by decide +kernel
  refine j_newI (n := 6) rfl wa_int (by decide) (by decide) (by decide) ?_
  rw [hz, am_at_e hz]
  refine j_dup rfl (Nat.ne_of_beq_eq_false rfl) ?_
  refine j_iconst rfl ?_
  refine j_iconst rfl ?_
  refine j_iast (n := 6) rfl (by decide +kernel) (by decide +kernel) (by decide +kernel) (by decide) (by decide) (by decide) ?_
  refine j_dup rfl (Nat.ne_of_beq_eq_false rfl) ?_
  refine j_iconst rfl ?_
  refine j_iconst rfl ?_
  refine j_iast (n := 6) rfl (by decide +kernel) (by decide +kernel) (by decide +kernel) (by decide) (by decide) (by decide) ?_
  refine j_dup rfl (Nat.ne_of_beq_eq_false rfl) ?_
  refine j_iconst rfl ?_
  refine j_iconst rfl ?_
  refine j_iast (n := 6) rfl (by decide +kernel) (by decide +kernel) (by decide +kernel) (by decide) (by decide) (by decide) ?_
  refine j_dup rfl (Nat.ne_of_beq_eq_false rfl) ?_
  refine j_iconst rfl ?_
  refine j_iconst rfl ?_
  refine j_iast (n := 6) rfl (by decide +kernel) (by decide +kernel) (by decide +kernel) (by decide) (by decide) (by decide) ?_
  refine j_dup rfl (Nat.ne_of_beq_eq_false rfl) ?_
  refine j_iconst rfl ?_
  refine j_iconst rfl ?_
  refine j_iast (n := 6) rfl (by decide +kernel) (by decide +kernel) (by decide +kernel) (by decide) (by decide) (by decide) ?_
  refine j_dup rfl (Nat.ne_of_beq_eq_false rfl) ?_
  refine j_iconst rfl ?_
  refine j_iconst rfl ?_
  refine j_iast (n := 6) rfl (by decide +kernel) (by decide +kernel) (by decide +kernel) (by decide) (by decide) (by decide) ?_
  refine j_putFR rfl f_X12_19 rfl rfl (fun _ => ⟨rfl, rfl⟩) rfl (by decide +kernel) (by decide +kernel) ?_
  refine j_mem (m' := mo4) (by rfl) ?_
  refine j_aload_n rfl rfl ?_
  refine j_bipush rfl (by decide) ?_
  have hz : mz mo4 = 91 := by decide +kernel
  refine j_newI (n := 7) rfl wa_int (by decide) (by decide) (by decide) ?_
  rw [hz, am_at_e hz]
  refine j_putFR rfl f_X12_22 rfl rfl (fun _ => ⟨rfl, rfl⟩) rfl (by decide +kernel) (by decide +kernel) ?_
  refine j_mem (m' := mo5) (by rfl) ?_
  refine j_aload_n rfl rfl ?_
  refine j_bipush rfl (by decide) ?_
  have hz : mz mo5 = 92 := by decide +kernel
  refine j_newZ (n := 84) rfl wa_boolean (by decide) (by decide) (by decide) ?_
  rw [hz, am_at_e hz]
  refine j_putFR rfl f_X12_25 rfl rfl (fun _ => ⟨rfl, rfl⟩) rfl (by decide +kernel) (by decide +kernel) ?_
  refine j_mem (m' := mo6) (by rfl) ?_
  refine j_aload_n rfl rfl ?_
  refine j_bipush rfl (by decide) ?_
  have hz : mz mo6 = 93 := by decide +kernel
  refine j_newZ (n := 84) rfl wa_boolean (by decide) (by decide) (by decide) ?_
  rw [hz, am_at_e hz]
  refine j_putFR rfl f_X12_29 rfl rfl (fun _ => ⟨rfl, rfl⟩) rfl (by decide +kernel) (by decide +kernel) ?_
  refine j_mem (m' := mo7) (by rfl) ?_
  refine j_aload_n rfl rfl ?_
  refine j_bipush rfl (by decide) ?_
  have hz : mz mo7 = 94 := by decide +kernel
  refine j_newI (n := 84) rfl wa_int (by decide) (by decide) (by decide) ?_
  rw [hz, am_at_e hz]
  refine j_putFR rfl f_X12_32 rfl rfl (fun _ => ⟨rfl, rfl⟩) rfl (by decide +kernel) (by decide +kernel) ?_
  refine j_mem (m' := mo8) (by rfl) ?_
  refine j_aload_n rfl rfl ?_
  refine j_bipush rfl (by decide) ?_
  have hz : mz mo8 = 95 := by decide +kernel
  refine j_newI (n := 84) rfl wa_int (by decide) (by decide) (by decide) ?_
  rw [hz, am_at_e hz]
  refine j_putFR rfl f_X12_35 rfl rfl (fun _ => ⟨rfl, rfl⟩) rfl (by decide +kernel) (by decide +kernel) ?_
  refine j_mem (m' := mo9) (by rfl) ?_
  refine j_aload_n rfl rfl ?_
  refine j_bipush rfl (by decide) ?_
  have hz : mz mo9 = 96 := by decide +kernel
  refine j_newI (n := 84) rfl wa_int (by decide) (by decide) (by decide) ?_
  rw [hz, am_at_e hz]
  refine j_putFR rfl f_X12_38 rfl rfl (fun _ => ⟨rfl, rfl⟩) rfl (by decide +kernel) (by decide +kernel) ?_
  refine j_mem (m' := mo10) (by rfl) ?_
  refine j_aload_n rfl rfl ?_
  refine j_bipush rfl (by decide) ?_
  have hz : mz mo10 = 97 := by decide +kernel
  refine j_newI (n := 84) rfl wa_int (by decide) (by decide) (by decide) ?_
  rw [hz, am_at_e hz]
  refine j_putFR rfl f_X12_41 rfl rfl (fun _ => ⟨rfl, rfl⟩) rfl (by decide +kernel) (by decide +kernel) ?_
  refine j_mem (m' := mo11) (by rfl) ?_
  refine j_aload_n rfl rfl ?_
  refine j_sipush rfl (by decide) ?_
  have hz : mz mo11 = 98 := by decide +kernel
  refine j_newB (n := 1190) rfl wa_byte (by decide) (by decide) (by decide) ?_
  rw [hz, am_at_e hz]
  refine j_putFR rfl f_X12_44 rfl rfl (fun _ => ⟨rfl, rfl⟩) rfl (by decide +kernel) (by decide +kernel) ?_
  refine j_mem (m' := mo12) (by rfl) ?_
  refine j_aload_n rfl rfl ?_
  refine j_sipush rfl (by decide) ?_
  have hz : mz mo12 = 99 := by decide +kernel
  refine j_newI (n := 1190) rfl wa_int (by decide) (by decide) (by decide) ?_
  rw [hz, am_at_e hz]
  refine j_putFR rfl f_X12_48 rfl rfl (fun _ => ⟨rfl, rfl⟩) rfl (by decide +kernel) (by decide +kernel) ?_
  refine j_mem (m' := mo13) (by rfl) ?_
  refine j_aload_n rfl rfl ?_
  refine j_sipush rfl (by decide) ?_
  have hz : mz mo13 = 100 := by decide +kernel
  refine j_newB (n := 160) rfl wa_byte (by decide) (by decide) (by decide) ?_
  rw [hz, am_at_e hz]
  refine j_putFR rfl f_X12_51 rfl rfl (fun _ => ⟨rfl, rfl⟩) rfl (by decide +kernel) (by decide +kernel) ?_
  refine j_mem (m' := mo14) (by rfl) ?_
  refine j_aload_n rfl rfl ?_
  refine j_bipush rfl (by decide) ?_
  have hz : mz mo14 = 101 := by decide +kernel
  refine j_newI (n := 24) rfl wa_int (by decide) (by decide) (by decide) ?_
  rw [hz, am_at_e hz]
  refine j_putFR rfl f_X12_54 rfl rfl (fun _ => ⟨rfl, rfl⟩) rfl (by decide +kernel) (by decide +kernel) ?_
  refine j_mem (m' := mo15) (by rfl) ?_
  refine j_aload_n rfl rfl ?_
  refine j_bipush rfl (by decide) ?_
  have hz : mz mo15 = 102 := by decide +kernel
  refine j_newI (n := 24) rfl wa_int (by decide) (by decide) (by decide) ?_
  rw [hz, am_at_e hz]
  refine j_putFR rfl f_X12_57 rfl rfl (fun _ => ⟨rfl, rfl⟩) rfl (by decide +kernel) (by decide +kernel) ?_
  refine j_mem (m' := mo16) (by rfl) ?_
  refine j_aload_n rfl rfl ?_
  refine j_bipush rfl (by decide) ?_
  have hz : mz mo16 = 103 := by decide +kernel
  refine j_newI (n := 24) rfl wa_int (by decide) (by decide) (by decide) ?_
  rw [hz, am_at_e hz]
  refine j_putFR rfl f_X12_60 rfl rfl (fun _ => ⟨rfl, rfl⟩) rfl (by decide +kernel) (by decide +kernel) ?_
  refine j_mem (m' := mo17) (by rfl) ?_
  refine j_aload_n rfl rfl ?_
  refine j_bipush rfl (by decide) ?_
  have hz : mz mo17 = 104 := by decide +kernel
  refine j_newI (n := 24) rfl wa_int (by decide) (by decide) (by decide) ?_
  rw [hz, am_at_e hz]
  refine j_putFR rfl f_X12_63 rfl rfl (fun _ => ⟨rfl, rfl⟩) rfl (by decide +kernel) (by decide +kernel) ?_
  refine j_mem (m' := mo18) (by rfl) ?_
  refine j_aload_n rfl rfl ?_
  refine j_sipush rfl (by decide) ?_
  have hz : mz mo18 = 105 := by decide +kernel
  refine j_newI (n := 4800) rfl wa_int (by decide) (by decide) (by decide) ?_
  rw [hz, am_at_e hz]
  refine j_putFR rfl f_X12_66 rfl rfl (fun _ => ⟨rfl, rfl⟩) rfl (by decide +kernel) (by decide +kernel) ?_
  refine j_mem (m' := mo19) (by rfl) ?_
  refine j_aload_n rfl rfl ?_
  refine j_bipush rfl (by decide) ?_
  have hz : mz mo19 = 106 := by decide +kernel
  refine j_newI (n := 48) rfl wa_int (by decide) (by decide) (by decide) ?_
  rw [hz, am_at_e hz]
  refine j_putFR rfl f_X12_69 rfl rfl (fun _ => ⟨rfl, rfl⟩) rfl (by decide +kernel) (by decide +kernel) ?_
  refine j_mem (m' := mo20) (by rfl) ?_
  refine j_aload_n rfl rfl ?_
  refine j_bipush rfl (by decide) ?_
  have hz : mz mo20 = 107 := by decide +kernel
  refine j_newI (n := 24) rfl wa_int (by decide) (by decide) (by decide) ?_
  rw [hz, am_at_e hz]
  refine j_putFR rfl f_X12_72 rfl rfl (fun _ => ⟨rfl, rfl⟩) rfl (by decide +kernel) (by decide +kernel) ?_
  refine j_mem (m' := mo21) (by rfl) ?_
  refine j_aload_n rfl rfl ?_
  refine j_bipush rfl (by decide) ?_
  have hz : mz mo21 = 108 := by decide +kernel
  refine j_newI (n := 24) rfl wa_int (by decide) (by decide) (by decide) ?_
  rw [hz, am_at_e hz]
  refine j_putFR rfl f_X12_75 rfl rfl (fun _ => ⟨rfl, rfl⟩) rfl (by decide +kernel) (by decide +kernel) ?_
  refine j_mem (m' := mo22) (by rfl) ?_
  refine j_aload_n rfl rfl ?_
  refine j_bipush rfl (by decide) ?_
  have hz : mz mo22 = 109 := by decide +kernel
  refine j_newI (n := 24) rfl wa_int (by decide) (by decide) (by decide) ?_
  rw [hz, am_at_e hz]
  refine j_putFR rfl f_X12_78 rfl rfl (fun _ => ⟨rfl, rfl⟩) rfl (by decide +kernel) (by decide +kernel) ?_
  refine j_mem (m' := mo23) (by rfl) ?_
  refine j_aload_n rfl rfl ?_
  refine j_bipush rfl (by decide) ?_
  have hz : mz mo23 = 110 := by decide +kernel
  refine j_newI (n := 24) rfl wa_int (by decide) (by decide) (by decide) ?_
  rw [hz, am_at_e hz]
  refine j_putFR rfl f_X12_81 rfl rfl (fun _ => ⟨rfl, rfl⟩) rfl (by decide +kernel) (by decide +kernel) ?_
  refine j_mem (m' := mo24) (by rfl) ?_
  refine j_aload_n rfl rfl ?_
  refine j_bipush rfl (by decide) ?_
  have hz : mz mo24 = 111 := by decide +kernel
  refine j_newZ (n := 6) rfl wa_boolean (by decide) (by decide) (by decide) ?_
  rw [hz, am_at_e hz]
  refine j_putFR rfl f_X12_84 rfl rfl (fun _ => ⟨rfl, rfl⟩) rfl (by decide +kernel) (by decide +kernel) ?_
  refine j_mem (m' := mo25) (by rfl) ?_
  refine j_aload_n rfl rfl ?_
  refine j_bipush rfl (by decide) ?_
  have hz : mz mo25 = 112 := by decide +kernel
  refine j_newI (n := 6) rfl wa_int (by decide) (by decide) (by decide) ?_
  rw [hz, am_at_e hz]
  refine j_putFR rfl f_X12_87 rfl rfl (fun _ => ⟨rfl, rfl⟩) rfl (by decide +kernel) (by decide +kernel) ?_
  refine j_mem (m' := mo26) (by rfl) ?_
  refine j_aload_n rfl rfl ?_
  refine j_bipush rfl (by decide) ?_
  have hz : mz mo26 = 113 := by decide +kernel
  refine j_newI (n := 6) rfl wa_int (by decide) (by decide) (by decide) ?_
  rw [hz, am_at_e hz]
  refine j_putFR rfl f_X12_90 rfl rfl (fun _ => ⟨rfl, rfl⟩) rfl (by decide +kernel) (by decide +kernel) ?_
  refine j_mem (m' := mo27) (by rfl) ?_
  refine j_aload_n rfl rfl ?_
  refine j_iconst rfl ?_
  have hz : mz mo27 = 114 := by decide +kernel
  refine j_newI (n := 3) rfl wa_int (by decide) (by decide) (by decide) ?_
  rw [hz, am_at_e hz]
  refine j_putFR rfl f_X12_93 rfl rfl (fun _ => ⟨rfl, rfl⟩) rfl (by decide +kernel) (by decide +kernel) ?_
  refine j_mem (m' := mo28) (by rfl) ?_
  refine j_aload_n rfl rfl ?_
  refine j_sipush rfl (by decide) ?_
  have hz : mz mo28 = 115 := by decide +kernel
  refine j_newL (n := 170) rfl wa_long (by decide) (by decide) (by decide) ?_
  rw [hz, am_at_e hz]
  refine j_putFR rfl f_X12_96 rfl rfl (fun _ => ⟨rfl, rfl⟩) rfl (by decide +kernel) (by decide +kernel) ?_
  refine j_mem (m' := mo29) (by rfl) ?_
  refine j_aload_n rfl rfl ?_
  refine j_bipush rfl (by decide) ?_
  have hz : mz mo29 = 116 := by decide +kernel
  refine j_newI (n := 48) rfl wa_int (by decide) (by decide) (by decide) ?_
  rw [hz, am_at_e hz]
  refine j_putFR rfl f_X12_100 rfl rfl (fun _ => ⟨rfl, rfl⟩) rfl (by decide +kernel) (by decide +kernel) ?_
  refine j_mem (m' := mo30) (by rfl) ?_
  refine j_aload_n rfl rfl ?_
  refine j_bipush rfl (by decide) ?_
  have hz : mz mo30 = 117 := by decide +kernel
  refine j_newI (n := 24) rfl wa_int (by decide) (by decide) (by decide) ?_
  rw [hz, am_at_e hz]
  refine j_putFR rfl f_X12_103 rfl rfl (fun _ => ⟨rfl, rfl⟩) rfl (by decide +kernel) (by decide +kernel) ?_
  refine j_mem (m' := mo31) (by rfl) ?_
  refine j_aload_n rfl rfl ?_
  refine j_bipush rfl (by decide) ?_
  have hz : mz mo31 = 118 := by decide +kernel
  refine j_newI (n := 24) rfl wa_int (by decide) (by decide) (by decide) ?_
  rw [hz, am_at_e hz]
  refine j_putFR rfl f_X12_106 rfl rfl (fun _ => ⟨rfl, rfl⟩) rfl (by decide +kernel) (by decide +kernel) ?_
  refine j_mem (m' := mo32) (by rfl) ?_
  refine j_aload_n rfl rfl ?_
  refine j_bipush rfl (by decide) ?_
  have hz : mz mo32 = 119 := by decide +kernel
  refine j_newZ (n := 6) rfl wa_boolean (by decide) (by decide) (by decide) ?_
  rw [hz, am_at_e hz]
  refine j_putFR rfl f_X12_109 rfl rfl (fun _ => ⟨rfl, rfl⟩) rfl (by decide +kernel) (by decide +kernel) ?_
  refine j_mem (m' := mo33) (by rfl) ?_
  refine j_aload_n rfl rfl ?_
  refine j_bipush rfl (by decide) ?_
  have hz : mz mo33 = 120 := by decide +kernel
  refine j_newI (n := 6) rfl wa_int (by decide) (by decide) (by decide) ?_
  rw [hz, am_at_e hz]
  refine j_putFR rfl f_X12_112 rfl rfl (fun _ => ⟨rfl, rfl⟩) rfl (by decide +kernel) (by decide +kernel) ?_
  refine j_mem (m' := mo34) (by rfl) ?_
  refine j_aload_n rfl rfl ?_
  refine j_bipush rfl (by decide) ?_
  have hz : mz mo34 = 121 := by decide +kernel
  refine j_newI (n := 6) rfl wa_int (by decide) (by decide) (by decide) ?_
  rw [hz, am_at_e hz]
  refine j_putFR rfl f_X12_115 rfl rfl (fun _ => ⟨rfl, rfl⟩) rfl (by decide +kernel) (by decide +kernel) ?_
  refine j_mem (m' := mo35) (by rfl) ?_
  refine j_aload_n rfl rfl ?_
  refine j_iconst rfl ?_
  have hz : mz mo35 = 122 := by decide +kernel
  refine j_newI (n := 4) rfl wa_int (by decide) (by decide) (by decide) ?_
  rw [hz, am_at_e hz]
  refine j_putFR rfl f_X12_118 rfl rfl (fun _ => ⟨rfl, rfl⟩) rfl (by decide +kernel) (by decide +kernel) ?_
  refine j_mem (m' := mo36) (by rfl) ?_
  refine j_aload_n rfl rfl ?_
  refine j_bipush rfl (by decide) ?_
  have hz : mz mo36 = 123 := by decide +kernel
  refine j_newI (n := 6) rfl wa_int (by decide) (by decide) (by decide) ?_
  rw [hz, am_at_e hz]
  refine j_putFR rfl f_X12_121 rfl rfl (fun _ => ⟨rfl, rfl⟩) rfl (by decide +kernel) (by decide +kernel) ?_
  refine j_mem (m' := mo37) (by rfl) ?_
  refine j_aload_n rfl rfl ?_
  refine j_bipush rfl (by decide) ?_
  have hz : mz mo37 = 124 := by decide +kernel
  refine j_newI (n := 6) rfl wa_int (by decide) (by decide) (by decide) ?_
  rw [hz, am_at_e hz]
  refine j_putFR rfl f_X12_124 rfl rfl (fun _ => ⟨rfl, rfl⟩) rfl (by decide +kernel) (by decide +kernel) ?_
  refine j_mem (m' := mo38) (by rfl) ?_
  refine j_aload_n rfl rfl ?_
  refine j_iconst rfl ?_
  have hz : mz mo38 = 125 := by decide +kernel
  refine j_newI (n := 3) rfl wa_int (by decide) (by decide) (by decide) ?_
  rw [hz, am_at_e hz]
  refine j_putFR rfl f_X12_127 rfl rfl (fun _ => ⟨rfl, rfl⟩) rfl (by decide +kernel) (by decide +kernel) ?_
  refine j_mem (m' := mo39) (by rfl) ?_
  refine j_aload_n rfl rfl ?_
  refine j_sipush rfl (by decide) ?_
  have hz : mz mo39 = 126 := by decide +kernel
  refine j_newL (n := 170) rfl wa_long (by decide) (by decide) (by decide) ?_
  rw [hz, am_at_e hz]
  refine j_putFR rfl f_X12_130 rfl rfl (fun _ => ⟨rfl, rfl⟩) rfl (by decide +kernel) (by decide +kernel) ?_
  refine j_mem (m' := mo40) (by rfl) ?_
  refine j_aload_n rfl rfl ?_
  refine j_sipush rfl (by decide) ?_
  have hz : mz mo40 = 127 := by decide +kernel
  refine j_newL (n := 170) rfl wa_long (by decide) (by decide) (by decide) ?_
  rw [hz, am_at_e hz]
  refine j_putFR rfl f_X12_133 rfl rfl (fun _ => ⟨rfl, rfl⟩) rfl (by decide +kernel) (by decide +kernel) ?_
  refine j_mem (m' := mo41) (by rfl) ?_
  refine j_aload_n rfl rfl ?_
  refine j_bipush rfl (by decide) ?_
  have hz : mz mo41 = 128 := by decide +kernel
  refine j_newI (n := 48) rfl wa_int (by decide) (by decide) (by decide) ?_
  rw [hz, am_at_e hz]
  refine j_putFR rfl f_X12_136 rfl rfl (fun _ => ⟨rfl, rfl⟩) rfl (by decide +kernel) (by decide +kernel) ?_
  refine j_mem (m' := mo42) (by rfl) ?_
  refine j_aload_n rfl rfl ?_
  refine j_bipush rfl (by decide) ?_
  have hz : mz mo42 = 129 := by decide +kernel
  refine j_newI (n := 24) rfl wa_int (by decide) (by decide) (by decide) ?_
  rw [hz, am_at_e hz]
  refine j_putFR rfl f_X12_139 rfl rfl (fun _ => ⟨rfl, rfl⟩) rfl (by decide +kernel) (by decide +kernel) ?_
  refine j_mem (m' := mo43) (by rfl) ?_
  refine j_aload_n rfl rfl ?_
  refine j_bipush rfl (by decide) ?_
  have hz : mz mo43 = 130 := by decide +kernel
  refine j_newI (n := 24) rfl wa_int (by decide) (by decide) (by decide) ?_
  rw [hz, am_at_e hz]
  refine j_putFR rfl f_X12_142 rfl rfl (fun _ => ⟨rfl, rfl⟩) rfl (by decide +kernel) (by decide +kernel) ?_
  refine j_mem (m' := mo44) (by rfl) ?_
  refine j_aload_n rfl rfl ?_
  refine j_bipush rfl (by decide) ?_
  have hz : mz mo44 = 131 := by decide +kernel
  refine j_newZ (n := 6) rfl wa_boolean (by decide) (by decide) (by decide) ?_
  rw [hz, am_at_e hz]
  refine j_putFR rfl f_X12_145 rfl rfl (fun _ => ⟨rfl, rfl⟩) rfl (by decide +kernel) (by decide +kernel) ?_
  refine j_mem (m' := mo45) (by rfl) ?_
  refine j_aload_n rfl rfl ?_
  refine j_bipush rfl (by decide) ?_
  have hz : mz mo45 = 132 := by decide +kernel
  refine j_newI (n := 8) rfl wa_int (by decide) (by decide) (by decide) ?_
  rw [hz, am_at_e hz]
  refine j_putFR rfl f_X12_148 rfl rfl (fun _ => ⟨rfl, rfl⟩) rfl (by decide +kernel) (by decide +kernel) ?_
  refine j_mem (m' := mo46) (by rfl) ?_
  refine j_aload_n rfl rfl ?_
  refine j_bipush rfl (by decide) ?_
  have hz : mz mo46 = 133 := by decide +kernel
  refine j_newI (n := 20) rfl wa_int (by decide) (by decide) (by decide) ?_
  rw [hz, am_at_e hz]
  refine j_putFR rfl f_X12_151 rfl rfl (fun _ => ⟨rfl, rfl⟩) rfl (by decide +kernel) (by decide +kernel) ?_
  refine j_mem (m' := mo47) (by rfl) ?_
  refine j_aload_n rfl rfl ?_
  refine j_bipush rfl (by decide) ?_
  have hz : mz mo47 = 134 := by decide +kernel
  refine j_newI (n := 20) rfl wa_int (by decide) (by decide) (by decide) ?_
  rw [hz, am_at_e hz]
  refine j_putFR rfl f_X12_154 rfl rfl (fun _ => ⟨rfl, rfl⟩) rfl (by decide +kernel) (by decide +kernel) ?_
  refine j_mem (m' := mo48) (by rfl) ?_
  refine j_aload_n rfl rfl ?_
  refine j_bipush rfl (by decide) ?_
  have hz : mz mo48 = 135 := by decide +kernel
  refine j_newI (n := 20) rfl wa_int (by decide) (by decide) (by decide) ?_
  rw [hz, am_at_e hz]
  refine j_putFR rfl f_X12_157 rfl rfl (fun _ => ⟨rfl, rfl⟩) rfl (by decide +kernel) (by decide +kernel) ?_
  refine j_mem (m' := mo49) (by rfl) ?_
  refine j_aload_n rfl rfl ?_
  refine j_bipush rfl (by decide) ?_
  have hz : mz mo49 = 136 := by decide +kernel
  refine j_newI (n := 40) rfl wa_int (by decide) (by decide) (by decide) ?_
  rw [hz, am_at_e hz]
  refine j_putFR rfl f_X12_160 rfl rfl (fun _ => ⟨rfl, rfl⟩) rfl (by decide +kernel) (by decide +kernel) ?_
  refine j_mem (m' := mo50) (by rfl) ?_
  refine j_aload_n rfl rfl ?_
  refine j_sipush rfl (by decide) ?_
  have hz : mz mo50 = 137 := by decide +kernel
  refine j_newI (n := 240) rfl wa_int (by decide) (by decide) (by decide) ?_
  rw [hz, am_at_e hz]
  refine j_putFR rfl f_X12_163 rfl rfl (fun _ => ⟨rfl, rfl⟩) rfl (by decide +kernel) (by decide +kernel) ?_
  refine j_mem (m' := mo51) (by rfl) ?_
  refine j_aload_n rfl rfl ?_
  refine j_bipush rfl (by decide) ?_
  have hz : mz mo51 = 138 := by decide +kernel
  refine j_newI (n := 24) rfl wa_int (by decide) (by decide) (by decide) ?_
  rw [hz, am_at_e hz]
  refine j_putFR rfl f_X12_166 rfl rfl (fun _ => ⟨rfl, rfl⟩) rfl (by decide +kernel) (by decide +kernel) ?_
  refine j_mem (m' := mo52) (by rfl) ?_
  refine j_aload_n rfl rfl ?_
  refine j_bipush rfl (by decide) ?_
  have hz : mz mo52 = 139 := by decide +kernel
  refine j_newI (n := 6) rfl wa_int (by decide) (by decide) (by decide) ?_
  rw [hz, am_at_e hz]
  refine j_dup rfl (Nat.ne_of_beq_eq_false rfl) ?_
  refine j_iconst rfl ?_
  refine j_iconst rfl ?_
  refine j_iast (n := 6) rfl (by decide +kernel) (by decide +kernel) (by decide +kernel) (by decide) (by decide) (by decide) ?_
  refine j_dup rfl (Nat.ne_of_beq_eq_false rfl) ?_
  refine j_iconst rfl ?_
  refine j_iconst rfl ?_
  refine j_iast (n := 6) rfl (by decide +kernel) (by decide +kernel) (by decide +kernel) (by decide) (by decide) (by decide) ?_
  refine j_dup rfl (Nat.ne_of_beq_eq_false rfl) ?_
  refine j_iconst rfl ?_
  refine j_iconst rfl ?_
  refine j_iast (n := 6) rfl (by decide +kernel) (by decide +kernel) (by decide +kernel) (by decide) (by decide) (by decide) ?_
  refine j_dup rfl (Nat.ne_of_beq_eq_false rfl) ?_
  refine j_iconst rfl ?_
  refine j_iconst rfl ?_
  refine j_iast (n := 6) rfl (by decide +kernel) (by decide +kernel) (by decide +kernel) (by decide) (by decide) (by decide) ?_
  refine j_dup rfl (Nat.ne_of_beq_eq_false rfl) ?_
  refine j_iconst rfl ?_
  refine j_iconst rfl ?_
  refine j_iast (n := 6) rfl (by decide +kernel) (by decide +kernel) (by decide +kernel) (by decide) (by decide) (by decide) ?_
  refine j_dup rfl (Nat.ne_of_beq_eq_false rfl) ?_
  refine j_iconst rfl ?_
  refine j_iconst rfl ?_
  refine j_iast (n := 6) rfl (by decide +kernel) (by decide +kernel) (by decide +kernel) (by decide) (by decide) (by decide) ?_
  refine j_putFR rfl f_X12_169 rfl rfl (fun _ => ⟨rfl, rfl⟩) rfl (by decide +kernel) (by decide +kernel) ?_
  refine j_mem (m' := mo53) (by rfl) ?_
  refine j_aload_n rfl rfl ?_
  refine j_bipush rfl (by decide) ?_
  have hz : mz mo53 = 140 := by decide +kernel
  refine j_newI (n := 6) rfl wa_int (by decide) (by decide) (by decide) ?_
  rw [hz, am_at_e hz]
  refine j_putFR rfl f_X12_172 rfl rfl (fun _ => ⟨rfl, rfl⟩) rfl (by decide +kernel) (by decide +kernel) ?_
  refine j_mem (m' := mo54) (by rfl) ?_
  refine j_aload_n rfl rfl ?_
  refine j_sipush rfl (by decide) ?_
  have hz : mz mo54 = 141 := by decide +kernel
  refine j_newL (n := 360) rfl wa_long (by decide) (by decide) (by decide) ?_
  rw [hz, am_at_e hz]
  refine j_putFR rfl f_X12_175 rfl rfl (fun _ => ⟨rfl, rfl⟩) rfl (by decide +kernel) (by decide +kernel) ?_
  refine j_mem (m' := mo55) (by rfl) ?_
  refine j_aload_n rfl rfl ?_
  refine j_sipush rfl (by decide) ?_
  have hz : mz mo55 = 142 := by decide +kernel
  refine j_newZ (n := 360) rfl wa_boolean (by decide) (by decide) (by decide) ?_
  rw [hz, am_at_e hz]
  refine j_putFR rfl f_X12_178 rfl rfl (fun _ => ⟨rfl, rfl⟩) rfl (by decide +kernel) (by decide +kernel) ?_
  refine j_mem (m' := mo56) (by rfl) ?_
  refine j_aload_n rfl rfl ?_
  refine j_bipush rfl (by decide) ?_
  have hz : mz mo56 = 143 := by decide +kernel
  refine j_newL (n := 60) rfl wa_long (by decide) (by decide) (by decide) ?_
  rw [hz, am_at_e hz]
  refine j_putFR rfl f_X12_181 rfl rfl (fun _ => ⟨rfl, rfl⟩) rfl (by decide +kernel) (by decide +kernel) ?_
  refine j_mem (m' := mo57) (by rfl) ?_
  refine j_aload_n rfl rfl ?_
  refine j_bipush rfl (by decide) ?_
  have hz : mz mo57 = 144 := by decide +kernel
  refine j_newZ (n := 60) rfl wa_boolean (by decide) (by decide) (by decide) ?_
  rw [hz, am_at_e hz]
  refine j_putFR rfl f_X12_184 rfl rfl (fun _ => ⟨rfl, rfl⟩) rfl (by decide +kernel) (by decide +kernel) ?_
  refine j_mem (m' := mo58) (by rfl) ?_
  refine j_vret rfl rfl ?_ rfl (Nat.le_of_ble_eq_true rfl)
  exact ⟨rfl, rfl⟩

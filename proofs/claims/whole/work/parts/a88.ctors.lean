/-! constructors: rows of arrays -/
/-- a new cell at a place that is known -/
def am_at (m : AM) (z kd len : Nat) : AM := (fun o k => if o = z then 0 else m.1 o k, fun o k => if o = z then 0 else m.2.1 o k, fun o k => if o = z then none else mr m o k, fun o => if o = z then kd else mk m o, fun o => if o = z then len else mn m o, z + 1)
theorem am_at_e {m : AM} {z : Nat} (h : mz m = z) (kd len : Nat) : am_new m kd len = am_at m z kd len := by
  subst h
  rfl
theorem at_both {m : AM} {o c z : Nat} (kd len : Nat) (hz : mz m = z) (h : o < mz m ∧ mk m o = c) : (o < mz (am_at m z kd len) ∧ mk (am_at m z kd len) o = c) ∧ mz (am_at m z kd len) = z + 1 := by
  refine ⟨⟨by show o < z + 1; omega, ?_⟩, rfl⟩
  show (if o = z then kd else mk m o) = c
  rw [if_neg (by omega)]
  exact h.2
theorem sr_both {m : AM} {o c z : Nat} (p k : Nat) (v : Option Nat) (hz : mz m = z) (h : o < mz m ∧ mk m o = c) : (o < mz (sr m p k v) ∧ mk (sr m p k v) o = c) ∧ mz (sr m p k v) = z := ⟨h, hz⟩
theorem si_both {m : AM} {o c z : Nat} (p k : Nat) (v : Int) (hz : mz m = z) (h : o < mz m ∧ mk m o = c) : (o < mz (si m p k v) ∧ mk (si m p k v) o = c) ∧ mz (si m p k v) = z := ⟨h, hz⟩
/-- arrays, each put into a field of x -/
def arz (x : Nat) : Nat → List (Nat × Nat × Nat) → AM → AM
  | _, [], m => m
  | z, (kd, len, f) :: t, m => arz x (z + 1) t (sr (am_at m z kd len) x f (some z))
theorem j_mem {G : QW} {md : MD} {R : Room} {F : QFin} {pc : Nat} {ls : List (Nat × Vl)} {st : List Vl} {m m' : AM} {cc cs : Nat} (h : m = m') (k : qJ G md R F pc ls st m' cc cs) : qJ G md R F pc ls st m cc cs := by
  rw [h]
  exact k

def iX0M (m : AM) (o : Nat) : AM := (arz o (o + 1) [(13, 24, 0)] m)
set_option maxRecDepth 20000 in
set_option maxHeartbeats 4000000 in
theorem cq_X0_init {G : QW} {m : AM} {o : Nat} (ho : o < mz m ∧ mk m o = 0) (hz : mz m = o + 1) : qM G mX0_init 1 1 24 [vR o] m (fun r m' => r = none ∧ m' = iX0M m o) := by
  refine qM.intro okX0_init (Nat.le_of_ble_eq_true rfl) ?_
  refine j_aload_n rfl rfl ?_
  refine j_obj rfl ob_X0_3 w_obj1 w_obj2 (by decide) (by decide) ?_
  refine j_aload_n rfl rfl ?_
  refine j_bipush rfl (by decide) ?_
  refine j_newI (n := 24) rfl wa_int (by decide) (by decide) (by decide) ?_
  rw [hz, am_at_e hz]
  obtain ⟨ho, hz⟩ := at_both 13 24 hz ho
  refine j_putFR rfl f_X0_9 rfl rfl (fun _ => ⟨rfl, rfl⟩) rfl ho.1 ho.2 ?_
  obtain ⟨ho, hz⟩ := sr_both o 0 (some (o + 1)) hz ho
  refine j_vret rfl rfl ?_ rfl (Nat.le_refl _)
  exact ⟨rfl, rfl⟩

def iX2M (m : AM) (o : Nat) : AM := (arz o (o + 1) [(13, 256, 0), (13, 256, 1)] m)
set_option maxRecDepth 20000 in
set_option maxHeartbeats 4000000 in
theorem cq_X2_init {G : QW} {m : AM} {o : Nat} (ho : o < mz m ∧ mk m o = 2) (hz : mz m = o + 1) : qM G mX2_init 1 2 512 [vR o] m (fun r m' => r = none ∧ m' = iX2M m o) := by
  refine qM.intro okX2_init (Nat.le_of_ble_eq_true rfl) ?_
  refine j_aload_n rfl rfl ?_
  refine j_obj rfl ob_X2_3 w_obj1 w_obj2 (by decide) (by decide) ?_
  refine j_aload_n rfl rfl ?_
  refine j_sipush rfl (by decide) ?_
  refine j_newI (n := 256) rfl wa_int (by decide) (by decide) (by decide) ?_
  rw [hz, am_at_e hz]
  obtain ⟨ho, hz⟩ := at_both 13 256 hz ho
  refine j_putFR rfl f_X2_9 rfl rfl (fun _ => ⟨rfl, rfl⟩) rfl ho.1 ho.2 ?_
  obtain ⟨ho, hz⟩ := sr_both o 0 (some (o + 1)) hz ho
  refine j_aload_n rfl rfl ?_
  refine j_sipush rfl (by decide) ?_
  refine j_newI (n := 256) rfl wa_int (by decide) (by decide) (by decide) ?_
  rw [hz, am_at_e hz]
  obtain ⟨ho, hz⟩ := at_both 13 256 hz ho
  refine j_putFR rfl f_X2_15 rfl rfl (fun _ => ⟨rfl, rfl⟩) rfl ho.1 ho.2 ?_
  obtain ⟨ho, hz⟩ := sr_both o 1 (some ((o + 1) + 1)) hz ho
  refine j_vret rfl rfl ?_ rfl (Nat.le_refl _)
  exact ⟨rfl, rfl⟩

def iX4M (m : AM) (o : Nat) : AM := (fil (arz o (o + 1) [(13, 20, 0), (13, 20, 1), (13, 20, 2), (13, 20, 3), (13, 240, 4)] m) (((((o + 1) + 1) + 1) + 1) + 1) 0 (240 : Nat) (-1))
set_option maxRecDepth 20000 in
set_option maxHeartbeats 4000000 in
theorem cq_X4_init {G : QW} {m : AM} {o : Nat} (ho : o < mz m ∧ mk m o = 4) (hz : mz m = o + 1) : qM G mX4_init 1 5 320 [vR o] m (fun r m' => r = none ∧ m' = iX4M m o) := by
  refine qM.intro okX4_init (Nat.le_of_ble_eq_true rfl) ?_
  refine j_aload_n rfl rfl ?_
  refine j_obj rfl ob_X4_3 w_obj1 w_obj2 (by decide) (by decide) ?_
  refine j_aload_n rfl rfl ?_
  refine j_bipush rfl (by decide) ?_
  refine j_newI (n := 20) rfl wa_int (by decide) (by decide) (by decide) ?_
  rw [hz, am_at_e hz]
  obtain ⟨ho, hz⟩ := at_both 13 20 hz ho
  refine j_putFR rfl f_X4_9 rfl rfl (fun _ => ⟨rfl, rfl⟩) rfl ho.1 ho.2 ?_
  obtain ⟨ho, hz⟩ := sr_both o 0 (some (o + 1)) hz ho
  refine j_aload_n rfl rfl ?_
  refine j_bipush rfl (by decide) ?_
  refine j_newI (n := 20) rfl wa_int (by decide) (by decide) (by decide) ?_
  rw [hz, am_at_e hz]
  obtain ⟨ho, hz⟩ := at_both 13 20 hz ho
  refine j_putFR rfl f_X4_15 rfl rfl (fun _ => ⟨rfl, rfl⟩) rfl ho.1 ho.2 ?_
  obtain ⟨ho, hz⟩ := sr_both o 1 (some ((o + 1) + 1)) hz ho
  refine j_aload_n rfl rfl ?_
  refine j_bipush rfl (by decide) ?_
  refine j_newI (n := 20) rfl wa_int (by decide) (by decide) (by decide) ?_
  rw [hz, am_at_e hz]
  obtain ⟨ho, hz⟩ := at_both 13 20 hz ho
  refine j_putFR rfl f_X4_18 rfl rfl (fun _ => ⟨rfl, rfl⟩) rfl ho.1 ho.2 ?_
  obtain ⟨ho, hz⟩ := sr_both o 2 (some (((o + 1) + 1) + 1)) hz ho
  refine j_aload_n rfl rfl ?_
  refine j_bipush rfl (by decide) ?_
  refine j_newI (n := 20) rfl wa_int (by decide) (by decide) (by decide) ?_
  rw [hz, am_at_e hz]
  obtain ⟨ho, hz⟩ := at_both 13 20 hz ho
  refine j_putFR rfl f_X4_21 rfl rfl (fun _ => ⟨rfl, rfl⟩) rfl ho.1 ho.2 ?_
  obtain ⟨ho, hz⟩ := sr_both o 3 (some ((((o + 1) + 1) + 1) + 1)) hz ho
  refine j_aload_n rfl rfl ?_
  refine j_sipush rfl (by decide) ?_
  refine j_newI (n := 240) rfl wa_int (by decide) (by decide) (by decide) ?_
  rw [hz, am_at_e hz]
  obtain ⟨ho, hz⟩ := at_both 13 240 hz ho
  refine j_putFR rfl f_X4_24 rfl rfl (fun _ => ⟨rfl, rfl⟩) rfl ho.1 ho.2 ?_
  obtain ⟨ho, hz⟩ := sr_both o 4 (some (((((o + 1) + 1) + 1) + 1) + 1)) hz ho
  refine j_aload_n rfl rfl ?_
  have hr : mr (sr (am_at (sr (am_at (sr (am_at (sr (am_at (sr (am_at m (o + 1) 13 20) o 0 (some (o + 1))) ((o + 1) + 1) 13 20) o 1 (some ((o + 1) + 1))) (((o + 1) + 1) + 1) 13 20) o 2 (some (((o + 1) + 1) + 1))) ((((o + 1) + 1) + 1) + 1) 13 20) o 3 (some ((((o + 1) + 1) + 1) + 1))) (((((o + 1) + 1) + 1) + 1) + 1) 13 240) o 4 (some (((((o + 1) + 1) + 1) + 1) + 1))) o 4 = some (((((o + 1) + 1) + 1) + 1) + 1) := mr_sr_same _ _ _ _
  refine j_getR (q := (((((o + 1) + 1) + 1) + 1) + 1)) rfl f_X4_24 rfl ho.1 ho.2 hr ?_
  refine j_iconst rfl ?_
  refine j_callS (As := [_, _]) rfl okJ7_fill_53178 c_X4_27 (ct_fillI (n := 240) (show (((((o + 1) + 1) + 1) + 1) + 1) < mz (sr (am_at (sr (am_at (sr (am_at (sr (am_at (sr (am_at m (o + 1) 13 20) o 0 (some (o + 1))) ((o + 1) + 1) 13 20) o 1 (some ((o + 1) + 1))) (((o + 1) + 1) + 1) 13 20) o 2 (some (((o + 1) + 1) + 1))) ((((o + 1) + 1) + 1) + 1) 13 20) o 3 (some ((((o + 1) + 1) + 1) + 1))) (((((o + 1) + 1) + 1) + 1) + 1) 13 240) o 4 (some (((((o + 1) + 1) + 1) + 1) + 1))) by rw [hz]; omega) (show mk (sr (am_at (sr (am_at (sr (am_at (sr (am_at (sr (am_at m (o + 1) 13 20) o 0 (some (o + 1))) ((o + 1) + 1) 13 20) o 1 (some ((o + 1) + 1))) (((o + 1) + 1) + 1) 13 20) o 2 (some (((o + 1) + 1) + 1))) ((((o + 1) + 1) + 1) + 1) 13 20) o 3 (some ((((o + 1) + 1) + 1) + 1))) (((((o + 1) + 1) + 1) + 1) + 1) 13 240) o 4 (some (((((o + 1) + 1) + 1) + 1) + 1))) (((((o + 1) + 1) + 1) + 1) + 1) = 13 from if_pos rfl) (show mn (sr (am_at (sr (am_at (sr (am_at (sr (am_at (sr (am_at m (o + 1) 13 20) o 0 (some (o + 1))) ((o + 1) + 1) 13 20) o 1 (some ((o + 1) + 1))) (((o + 1) + 1) + 1) 13 20) o 2 (some (((o + 1) + 1) + 1))) ((((o + 1) + 1) + 1) + 1) 13 20) o 3 (some ((((o + 1) + 1) + 1) + 1))) (((((o + 1) + 1) + 1) + 1) + 1) 13 240) o 4 (some (((((o + 1) + 1) + 1) + 1) + 1))) (((((o + 1) + 1) + 1) + 1) + 1) = 240 from if_pos rfl) (by decide)) rfl rfl (Nat.le_of_ble_eq_true rfl) (by decide) (by decide) ?_
  rintro vq mq ⟨e1, e2⟩
  rw [e1, e2]
  clear e1 e2
  simp only [Option.toList_some, Option.toList_none, List.cons_append, List.nil_append]
  refine j_vret rfl rfl ?_ rfl (Nat.le_refl _)
  exact ⟨rfl, rfl⟩

def iX6M (m : AM) (o : Nat) : AM := (arz o (o + 1) [(13, 160, 0)] m)
set_option maxRecDepth 20000 in
set_option maxHeartbeats 4000000 in
theorem cq_X6_init {G : QW} {m : AM} {o : Nat} (ho : o < mz m ∧ mk m o = 6) (hz : mz m = o + 1) : qM G mX6_init 1 1 160 [vR o] m (fun r m' => r = none ∧ m' = iX6M m o) := by
  refine qM.intro okX6_init (Nat.le_of_ble_eq_true rfl) ?_
  refine j_aload_n rfl rfl ?_
  refine j_obj rfl ob_X6_3 w_obj1 w_obj2 (by decide) (by decide) ?_
  refine j_aload_n rfl rfl ?_
  refine j_sipush rfl (by decide) ?_
  refine j_newI (n := 160) rfl wa_int (by decide) (by decide) (by decide) ?_
  rw [hz, am_at_e hz]
  obtain ⟨ho, hz⟩ := at_both 13 160 hz ho
  refine j_putFR rfl f_X6_9 rfl rfl (fun _ => ⟨rfl, rfl⟩) rfl ho.1 ho.2 ?_
  obtain ⟨ho, hz⟩ := sr_both o 0 (some (o + 1)) hz ho
  refine j_vret rfl rfl ?_ rfl (Nat.le_refl _)
  exact ⟨rfl, rfl⟩

def iX7M (m : AM) (o : Nat) : AM := (si (si (arz o (o + 1) [(14, 60, 0), (15, 60, 1)] m) o 2 (-1)) o 3 (-1))
set_option maxRecDepth 20000 in
set_option maxHeartbeats 4000000 in
theorem cq_X7_init {G : QW} {m : AM} {o : Nat} (ho : o < mz m ∧ mk m o = 7) (hz : mz m = o + 1) : qM G mX7_init 1 2 120 [vR o] m (fun r m' => r = none ∧ m' = iX7M m o) := by
  refine qM.intro okX7_init (Nat.le_of_ble_eq_true rfl) ?_
  refine j_aload_n rfl rfl ?_
  refine j_obj rfl ob_X7_3 w_obj1 w_obj2 (by decide) (by decide) ?_
  refine j_aload_n rfl rfl ?_
  refine j_bipush rfl (by decide) ?_
  refine j_newL (n := 60) rfl wa_long (by decide) (by decide) (by decide) ?_
  rw [hz, am_at_e hz]
  obtain ⟨ho, hz⟩ := at_both 14 60 hz ho
  refine j_putFR rfl f_X7_9 rfl rfl (fun _ => ⟨rfl, rfl⟩) rfl ho.1 ho.2 ?_
  obtain ⟨ho, hz⟩ := sr_both o 0 (some (o + 1)) hz ho
  refine j_aload_n rfl rfl ?_
  refine j_bipush rfl (by decide) ?_
  refine j_newB (n := 60) rfl wa_byte (by decide) (by decide) (by decide) ?_
  rw [hz, am_at_e hz]
  obtain ⟨ho, hz⟩ := at_both 15 60 hz ho
  refine j_putFR rfl f_X7_15 rfl rfl (fun _ => ⟨rfl, rfl⟩) rfl ho.1 ho.2 ?_
  obtain ⟨ho, hz⟩ := sr_both o 1 (some ((o + 1) + 1)) hz ho
  refine j_aload_n rfl rfl ?_
  refine j_iconst rfl ?_
  refine j_putI rfl f_X7_19 rfl ho.1 ho.2 ?_
  obtain ⟨ho, hz⟩ := si_both o 2 (-1) hz ho
  refine j_aload_n rfl rfl ?_
  refine j_iconst rfl ?_
  refine j_putI rfl f_X7_23 rfl ho.1 ho.2 ?_
  obtain ⟨ho, hz⟩ := si_both o 3 (-1) hz ho
  refine j_vret rfl rfl ?_ rfl (Nat.le_refl _)
  exact ⟨rfl, rfl⟩

def iX8M (m : AM) (o : Nat) : AM := (arz o (o + 1) [(13, 6, 0), (13, 6, 1), (14, 160, 2), (14, 160, 3)] m)
set_option maxRecDepth 20000 in
set_option maxHeartbeats 4000000 in
theorem cq_X8_init {G : QW} {m : AM} {o : Nat} (ho : o < mz m ∧ mk m o = 8) (hz : mz m = o + 1) : qM G mX8_init 1 4 332 [vR o] m (fun r m' => r = none ∧ m' = iX8M m o) := by
  refine qM.intro okX8_init (Nat.le_of_ble_eq_true rfl) ?_
  refine j_aload_n rfl rfl ?_
  refine j_obj rfl ob_X8_3 w_obj1 w_obj2 (by decide) (by decide) ?_
  refine j_aload_n rfl rfl ?_
  refine j_bipush rfl (by decide) ?_
  refine j_newI (n := 6) rfl wa_int (by decide) (by decide) (by decide) ?_
  rw [hz, am_at_e hz]
  obtain ⟨ho, hz⟩ := at_both 13 6 hz ho
  refine j_putFR rfl f_X8_9 rfl rfl (fun _ => ⟨rfl, rfl⟩) rfl ho.1 ho.2 ?_
  obtain ⟨ho, hz⟩ := sr_both o 0 (some (o + 1)) hz ho
  refine j_aload_n rfl rfl ?_
  refine j_bipush rfl (by decide) ?_
  refine j_newI (n := 6) rfl wa_int (by decide) (by decide) (by decide) ?_
  rw [hz, am_at_e hz]
  obtain ⟨ho, hz⟩ := at_both 13 6 hz ho
  refine j_putFR rfl f_X8_15 rfl rfl (fun _ => ⟨rfl, rfl⟩) rfl ho.1 ho.2 ?_
  obtain ⟨ho, hz⟩ := sr_both o 1 (some ((o + 1) + 1)) hz ho
  refine j_aload_n rfl rfl ?_
  refine j_sipush rfl (by decide) ?_
  refine j_newL (n := 160) rfl wa_long (by decide) (by decide) (by decide) ?_
  rw [hz, am_at_e hz]
  obtain ⟨ho, hz⟩ := at_both 14 160 hz ho
  refine j_putFR rfl f_X8_18 rfl rfl (fun _ => ⟨rfl, rfl⟩) rfl ho.1 ho.2 ?_
  obtain ⟨ho, hz⟩ := sr_both o 2 (some (((o + 1) + 1) + 1)) hz ho
  refine j_aload_n rfl rfl ?_
  refine j_sipush rfl (by decide) ?_
  refine j_newL (n := 160) rfl wa_long (by decide) (by decide) (by decide) ?_
  rw [hz, am_at_e hz]
  obtain ⟨ho, hz⟩ := at_both 14 160 hz ho
  refine j_putFR rfl f_X8_22 rfl rfl (fun _ => ⟨rfl, rfl⟩) rfl ho.1 ho.2 ?_
  obtain ⟨ho, hz⟩ := sr_both o 3 (some ((((o + 1) + 1) + 1) + 1)) hz ho
  refine j_vret rfl rfl ?_ rfl (Nat.le_refl _)
  exact ⟨rfl, rfl⟩

def iX9M (m : AM) (o : Nat) : AM := (arz o (o + 1) [(13, 48, 0), (13, 24, 1), (13, 6, 2), (13, 6, 3), (13, 6, 4), (13, 6, 5), (13, 4, 6)] m)
set_option maxRecDepth 20000 in
set_option maxHeartbeats 4000000 in
theorem cq_X9_init {G : QW} {m : AM} {o : Nat} (ho : o < mz m ∧ mk m o = 9) (hz : mz m = o + 1) : qM G mX9_init 1 7 100 [vR o] m (fun r m' => r = none ∧ m' = iX9M m o) := by
  refine qM.intro okX9_init (Nat.le_of_ble_eq_true rfl) ?_
  refine j_aload_n rfl rfl ?_
  refine j_obj rfl ob_X9_3 w_obj1 w_obj2 (by decide) (by decide) ?_
  refine j_aload_n rfl rfl ?_
  refine j_bipush rfl (by decide) ?_
  refine j_newI (n := 48) rfl wa_int (by decide) (by decide) (by decide) ?_
  rw [hz, am_at_e hz]
  obtain ⟨ho, hz⟩ := at_both 13 48 hz ho
  refine j_putFR rfl f_X9_9 rfl rfl (fun _ => ⟨rfl, rfl⟩) rfl ho.1 ho.2 ?_
  obtain ⟨ho, hz⟩ := sr_both o 0 (some (o + 1)) hz ho
  refine j_aload_n rfl rfl ?_
  refine j_bipush rfl (by decide) ?_
  refine j_newI (n := 24) rfl wa_int (by decide) (by decide) (by decide) ?_
  rw [hz, am_at_e hz]
  obtain ⟨ho, hz⟩ := at_both 13 24 hz ho
  refine j_putFR rfl f_X9_15 rfl rfl (fun _ => ⟨rfl, rfl⟩) rfl ho.1 ho.2 ?_
  obtain ⟨ho, hz⟩ := sr_both o 1 (some ((o + 1) + 1)) hz ho
  refine j_aload_n rfl rfl ?_
  refine j_bipush rfl (by decide) ?_
  refine j_newI (n := 6) rfl wa_int (by decide) (by decide) (by decide) ?_
  rw [hz, am_at_e hz]
  obtain ⟨ho, hz⟩ := at_both 13 6 hz ho
  refine j_putFR rfl f_X9_18 rfl rfl (fun _ => ⟨rfl, rfl⟩) rfl ho.1 ho.2 ?_
  obtain ⟨ho, hz⟩ := sr_both o 2 (some (((o + 1) + 1) + 1)) hz ho
  refine j_aload_n rfl rfl ?_
  refine j_bipush rfl (by decide) ?_
  refine j_newI (n := 6) rfl wa_int (by decide) (by decide) (by decide) ?_
  rw [hz, am_at_e hz]
  obtain ⟨ho, hz⟩ := at_both 13 6 hz ho
  refine j_putFR rfl f_X9_21 rfl rfl (fun _ => ⟨rfl, rfl⟩) rfl ho.1 ho.2 ?_
  obtain ⟨ho, hz⟩ := sr_both o 3 (some ((((o + 1) + 1) + 1) + 1)) hz ho
  refine j_aload_n rfl rfl ?_
  refine j_bipush rfl (by decide) ?_
  refine j_newI (n := 6) rfl wa_int (by decide) (by decide) (by decide) ?_
  rw [hz, am_at_e hz]
  obtain ⟨ho, hz⟩ := at_both 13 6 hz ho
  refine j_putFR rfl f_X9_24 rfl rfl (fun _ => ⟨rfl, rfl⟩) rfl ho.1 ho.2 ?_
  obtain ⟨ho, hz⟩ := sr_both o 4 (some (((((o + 1) + 1) + 1) + 1) + 1)) hz ho
  refine j_aload_n rfl rfl ?_
  refine j_bipush rfl (by decide) ?_
  refine j_newI (n := 6) rfl wa_int (by decide) (by decide) (by decide) ?_
  rw [hz, am_at_e hz]
  obtain ⟨ho, hz⟩ := at_both 13 6 hz ho
  refine j_putFR rfl f_X9_27 rfl rfl (fun _ => ⟨rfl, rfl⟩) rfl ho.1 ho.2 ?_
  obtain ⟨ho, hz⟩ := sr_both o 5 (some ((((((o + 1) + 1) + 1) + 1) + 1) + 1)) hz ho
  refine j_aload_n rfl rfl ?_
  refine j_iconst rfl ?_
  refine j_newI (n := 4) rfl wa_int (by decide) (by decide) (by decide) ?_
  rw [hz, am_at_e hz]
  obtain ⟨ho, hz⟩ := at_both 13 4 hz ho
  refine j_putFR rfl f_X9_30 rfl rfl (fun _ => ⟨rfl, rfl⟩) rfl ho.1 ho.2 ?_
  obtain ⟨ho, hz⟩ := sr_both o 6 (some (((((((o + 1) + 1) + 1) + 1) + 1) + 1) + 1)) hz ho
  refine j_vret rfl rfl ?_ rfl (Nat.le_refl _)
  exact ⟨rfl, rfl⟩

def iX10M (m : AM) (o : Nat) : AM := (arz o (o + 1) [(13, 24, 0), (13, 6, 1), (13, 3, 2), (14, 160, 3)] m)
set_option maxRecDepth 20000 in
set_option maxHeartbeats 4000000 in
theorem cq_X10_init {G : QW} {m : AM} {o : Nat} (ho : o < mz m ∧ mk m o = 10) (hz : mz m = o + 1) : qM G mX10_init 1 4 193 [vR o] m (fun r m' => r = none ∧ m' = iX10M m o) := by
  refine qM.intro okX10_init (Nat.le_of_ble_eq_true rfl) ?_
  refine j_aload_n rfl rfl ?_
  refine j_obj rfl ob_X10_3 w_obj1 w_obj2 (by decide) (by decide) ?_
  refine j_aload_n rfl rfl ?_
  refine j_bipush rfl (by decide) ?_
  refine j_newI (n := 24) rfl wa_int (by decide) (by decide) (by decide) ?_
  rw [hz, am_at_e hz]
  obtain ⟨ho, hz⟩ := at_both 13 24 hz ho
  refine j_putFR rfl f_X10_9 rfl rfl (fun _ => ⟨rfl, rfl⟩) rfl ho.1 ho.2 ?_
  obtain ⟨ho, hz⟩ := sr_both o 0 (some (o + 1)) hz ho
  refine j_aload_n rfl rfl ?_
  refine j_bipush rfl (by decide) ?_
  refine j_newI (n := 6) rfl wa_int (by decide) (by decide) (by decide) ?_
  rw [hz, am_at_e hz]
  obtain ⟨ho, hz⟩ := at_both 13 6 hz ho
  refine j_putFR rfl f_X10_15 rfl rfl (fun _ => ⟨rfl, rfl⟩) rfl ho.1 ho.2 ?_
  obtain ⟨ho, hz⟩ := sr_both o 1 (some ((o + 1) + 1)) hz ho
  refine j_aload_n rfl rfl ?_
  refine j_iconst rfl ?_
  refine j_newI (n := 3) rfl wa_int (by decide) (by decide) (by decide) ?_
  rw [hz, am_at_e hz]
  obtain ⟨ho, hz⟩ := at_both 13 3 hz ho
  refine j_putFR rfl f_X10_18 rfl rfl (fun _ => ⟨rfl, rfl⟩) rfl ho.1 ho.2 ?_
  obtain ⟨ho, hz⟩ := sr_both o 2 (some (((o + 1) + 1) + 1)) hz ho
  refine j_aload_n rfl rfl ?_
  refine j_sipush rfl (by decide) ?_
  refine j_newL (n := 160) rfl wa_long (by decide) (by decide) (by decide) ?_
  rw [hz, am_at_e hz]
  obtain ⟨ho, hz⟩ := at_both 14 160 hz ho
  refine j_putFR rfl f_X10_21 rfl rfl (fun _ => ⟨rfl, rfl⟩) rfl ho.1 ho.2 ?_
  obtain ⟨ho, hz⟩ := sr_both o 3 (some ((((o + 1) + 1) + 1) + 1)) hz ho
  refine j_vret rfl rfl ?_ rfl (Nat.le_refl _)
  exact ⟨rfl, rfl⟩

theorem dfX12 : ∀ k, k < 84 → defaultValue (tyX12 k) = if fr 12 k = true then .null else .int 0
  | 0, _ => rfl
  | 1, _ => rfl
  | 2, _ => rfl
  | 3, _ => rfl
  | 4, _ => rfl
  | 5, _ => rfl
  | 6, _ => rfl
  | 7, _ => rfl
  | 8, _ => rfl
  | 9, _ => rfl
  | 10, _ => rfl
  | 11, _ => rfl
  | 12, _ => rfl
  | 13, _ => rfl
  | 14, _ => rfl
  | 15, _ => rfl
  | 16, _ => rfl
  | 17, _ => rfl
  | 18, _ => rfl
  | 19, _ => rfl
  | 20, _ => rfl
  | 21, _ => rfl
  | 22, _ => rfl
  | 23, _ => rfl
  | 24, _ => rfl
  | 25, _ => rfl
  | 26, _ => rfl
  | 27, _ => rfl
  | 28, _ => rfl
  | 29, _ => rfl
  | 30, _ => rfl
  | 31, _ => rfl
  | 32, _ => rfl
  | 33, _ => rfl
  | 34, _ => rfl
  | 35, _ => rfl
  | 36, _ => rfl
  | 37, _ => rfl
  | 38, _ => rfl
  | 39, _ => rfl
  | 40, _ => rfl
  | 41, _ => rfl
  | 42, _ => rfl
  | 43, _ => rfl
  | 44, _ => rfl
  | 45, _ => rfl
  | 46, _ => rfl
  | 47, _ => rfl
  | 48, _ => rfl
  | 49, _ => rfl
  | 50, _ => rfl
  | 51, _ => rfl
  | 52, _ => rfl
  | 53, _ => rfl
  | 54, _ => rfl
  | 55, _ => rfl
  | 56, _ => rfl
  | 57, _ => rfl
  | 58, _ => rfl
  | 59, _ => rfl
  | 60, _ => rfl
  | 61, _ => rfl
  | 62, _ => rfl
  | 63, _ => rfl
  | 64, _ => rfl
  | 65, _ => rfl
  | 66, _ => rfl
  | 67, _ => rfl
  | 68, _ => rfl
  | 69, _ => rfl
  | 70, _ => rfl
  | 71, _ => rfl
  | 72, _ => rfl
  | 73, _ => rfl
  | 74, _ => rfl
  | 75, _ => rfl
  | 76, _ => rfl
  | 77, _ => rfl
  | 78, _ => rfl
  | 79, _ => rfl
  | 80, _ => rfl
  | 81, _ => rfl
  | 82, _ => rfl
  | 83, _ => rfl
  | k + 84, h => absurd h (by omega)

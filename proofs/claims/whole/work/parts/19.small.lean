def FJ9_max_7cf53 (m : AM) (a : Int) (b : Int) : Int :=
  if a < b then
    b
  else
    a
set_option maxRecDepth 20000 in
set_option maxHeartbeats 4000000 in
theorem ct_J9_max_7cf53 {G : QW} {m : AM} {a : Int} {b : Int} (ha1 : -2147483648 ≤ a) (ha2 : a < 2147483648) (hb1 : -2147483648 ≤ b) (hb2 : b < 2147483648) : qM G mJ9_max_7cf53 0 0 0 [vI a, vI b] m (fun r m' => r = some (vI (FJ9_max_7cf53 m a b)) ∧ m' = m) := by
  refine qM.intro okJ9_max_7cf53 (Nat.le_of_ble_eq_true rfl) ?_
  refine j_iload_n rfl rfl ?_
  refine j_iload_n rfl rfl ?_
  refine j_icmp_lt (tgt := 9) rfl (by decide) (by omega) (by omega) (by omega) (by omega) (fun hb2_1 => ?_) (fun hb2_1 => ?_)
  · skip
    refine j_iload_n rfl rfl ?_
    refine j_iret rfl rfl ?_ rfl (Nat.le_refl _)
    unfold FJ9_max_7cf53
    rw [if_pos hb2_1]
    exact ⟨rfl, rfl⟩
  · skip
    refine j_iload_n rfl rfl ?_
    refine j_goto (tgt := 10) rfl (by decide) ?_
    refine j_iret rfl rfl ?_ rfl (Nat.le_refl _)
    unfold FJ9_max_7cf53
    rw [if_neg hb2_1]
    exact ⟨rfl, rfl⟩

def FJ9_min_7cf53 (m : AM) (a : Int) (b : Int) : Int :=
  if a > b then
    b
  else
    a
set_option maxRecDepth 20000 in
set_option maxHeartbeats 4000000 in
theorem ct_J9_min_7cf53 {G : QW} {m : AM} {a : Int} {b : Int} (ha1 : -2147483648 ≤ a) (ha2 : a < 2147483648) (hb1 : -2147483648 ≤ b) (hb2 : b < 2147483648) : qM G mJ9_min_7cf53 0 0 0 [vI a, vI b] m (fun r m' => r = some (vI (FJ9_min_7cf53 m a b)) ∧ m' = m) := by
  refine qM.intro okJ9_min_7cf53 (Nat.le_of_ble_eq_true rfl) ?_
  refine j_iload_n rfl rfl ?_
  refine j_iload_n rfl rfl ?_
  refine j_icmp_gt (tgt := 9) rfl (by decide) (by omega) (by omega) (by omega) (by omega) (fun hb2_1 => ?_) (fun hb2_1 => ?_)
  · skip
    refine j_iload_n rfl rfl ?_
    refine j_iret rfl rfl ?_ rfl (Nat.le_refl _)
    unfold FJ9_min_7cf53
    rw [if_pos hb2_1]
    exact ⟨rfl, rfl⟩
  · skip
    refine j_iload_n rfl rfl ?_
    refine j_goto (tgt := 10) rfl (by decide) ?_
    refine j_iret rfl rfl ?_ rfl (Nat.le_refl _)
    unfold FJ9_min_7cf53
    rw [if_neg hb2_1]
    exact ⟨rfl, rfl⟩

def FJ9_max_f86c9 (m : AM) (a : Int) (b : Int) : Int :=
  if a < b then
    b
  else
    a
set_option maxRecDepth 20000 in
set_option maxHeartbeats 4000000 in
theorem ct_J9_max_f86c9 {G : QW} {m : AM} {a : Int} {b : Int} (ha1 : -9223372036854775808 ≤ a) (ha2 : a < 9223372036854775808) (hb1 : -9223372036854775808 ≤ b) (hb2 : b < 9223372036854775808) : qM G mJ9_max_f86c9 0 0 0 [vL a, vL b] m (fun r m' => r = some (vL (FJ9_max_f86c9 m a b)) ∧ m' = m) := by
  refine qM.intro okJ9_max_f86c9 (Nat.le_of_ble_eq_true rfl) ?_
  refine j_lload_n rfl rfl ?_
  refine j_lload_n rfl rfl ?_
  refine j_lc_lt (tgt := 10) rfl rfl (by decide) (by omega) (by omega) (by omega) (by omega) (fun hb2_1 => ?_) (fun hb2_1 => ?_)
  · skip
    refine j_lload_n rfl rfl ?_
    refine j_lret rfl rfl ?_ rfl (Nat.le_refl _)
    unfold FJ9_max_f86c9
    rw [if_pos hb2_1]
    exact ⟨rfl, rfl⟩
  · skip
    refine j_lload_n rfl rfl ?_
    refine j_goto (tgt := 11) rfl (by decide) ?_
    refine j_lret rfl rfl ?_ rfl (Nat.le_refl _)
    unfold FJ9_max_f86c9
    rw [if_neg hb2_1]
    exact ⟨rfl, rfl⟩

def FJ9_min_f86c9 (m : AM) (a : Int) (b : Int) : Int :=
  if a > b then
    b
  else
    a
set_option maxRecDepth 20000 in
set_option maxHeartbeats 4000000 in
theorem ct_J9_min_f86c9 {G : QW} {m : AM} {a : Int} {b : Int} (ha1 : -9223372036854775808 ≤ a) (ha2 : a < 9223372036854775808) (hb1 : -9223372036854775808 ≤ b) (hb2 : b < 9223372036854775808) : qM G mJ9_min_f86c9 0 0 0 [vL a, vL b] m (fun r m' => r = some (vL (FJ9_min_f86c9 m a b)) ∧ m' = m) := by
  refine qM.intro okJ9_min_f86c9 (Nat.le_of_ble_eq_true rfl) ?_
  refine j_lload_n rfl rfl ?_
  refine j_lload_n rfl rfl ?_
  refine j_lc_gt (tgt := 10) rfl rfl (by decide) (by omega) (by omega) (by omega) (by omega) (fun hb2_1 => ?_) (fun hb2_1 => ?_)
  · skip
    refine j_lload_n rfl rfl ?_
    refine j_lret rfl rfl ?_ rfl (Nat.le_refl _)
    unfold FJ9_min_f86c9
    rw [if_pos hb2_1]
    exact ⟨rfl, rfl⟩
  · skip
    refine j_lload_n rfl rfl ?_
    refine j_goto (tgt := 11) rfl (by decide) ?_
    refine j_lret rfl rfl ?_ rfl (Nat.le_refl _)
    unfold FJ9_min_f86c9
    rw [if_neg hb2_1]
    exact ⟨rfl, rfl⟩

def FJ9_abs_067f4 (m : AM) (a : Int) : Int :=
  if a ≥ 0 then
    a
  else
    -a
set_option maxRecDepth 20000 in
set_option maxHeartbeats 4000000 in
theorem ct_J9_abs_067f4 {G : QW} {m : AM} {a : Int} (ha1 : -9223372036854775808 < a) (ha2 : a < 9223372036854775808) : qM G mJ9_abs_067f4 0 0 0 [vL a] m (fun r m' => r = some (vL (FJ9_abs_067f4 m a)) ∧ m' = m) := by
  refine qM.intro okJ9_abs_067f4 (Nat.le_of_ble_eq_true rfl) ?_
  refine j_lload_n rfl rfl ?_
  refine j_lconst (v := 0) rfl (by decide) ?_
  refine j_lc_ge (tgt := 11) rfl rfl (by decide) (by omega) (by omega) (by omega) (by omega) (fun hb2_1 => ?_) (fun hb2_1 => ?_)
  · skip
    refine j_lload_n rfl rfl ?_
    refine j_lret rfl rfl ?_ rfl (Nat.le_refl _)
    unfold FJ9_abs_067f4
    rw [if_pos hb2_1]
    exact ⟨rfl, rfl⟩
  · skip
    refine j_lload_n rfl rfl ?_
    refine j_lneg rfl ?_
    refine j_goto (tgt := 12) rfl (by decide) ?_
    refine j_lret rfl rfl ?_ rfl (Nat.le_refl _)
    unfold FJ9_abs_067f4
    rw [if_neg hb2_1]
    exact ⟨rfl, rfl⟩

def FX1_greatestFor (m : AM) (o : Nat) (target : Int) : Int :=
  if target ≥ 8 then
    (z_ishl 1 (16 - 1)) - 1
  else
    (z_ishl 1 ((mi m (o + 1) target.toNat) - 1)) - 1
set_option maxRecDepth 20000 in
set_option maxHeartbeats 4000000 in
theorem ct_X1_greatestFor {G : QW} {m : AM} {o : Nat} {target : Int} (htarget1 : -2147483648 ≤ target) (htarget2 : target < 2147483648) (hO : ObA m o 1 fsBox) (h3 : 0 ≤ target) (h4 : target ≤ 13) : qM G mX1_greatestFor 0 0 0 [vR o, vI target] m (fun r m' => r = some (vI (FX1_greatestFor m o target)) ∧ m' = m) := by
  refine qM.intro okX1_greatestFor (Nat.le_of_ble_eq_true rfl) ?_
  refine j_iload_n rfl rfl ?_
  refine j_bipush rfl (by decide) ?_
  refine j_icmp_ge (tgt := 15) rfl (by decide) (by omega) (by omega) (by omega) (by omega) (fun hb3_1 => ?_) (fun hb3_1 => ?_)
  · skip
    refine j_bipush rfl (by decide) ?_
    refine j_istore_n rfl (by decide) ?_
    refine j_iconst rfl ?_
    refine j_iload_n rfl rfl ?_
    refine j_iconst rfl ?_
    refine j_isub rfl ?_
    refine j_ishl rfl ?_
    have z22_1 := z_ishl_rng 1 (16 - 1)
    refine j_iconst rfl ?_
    refine j_isub rfl ?_
    refine j_iret rfl rfl ?_ rfl (Nat.le_refl _)
    unfold FX1_greatestFor
    rw [if_pos hb3_1]
    exact ⟨rfl, rfl⟩
  · skip
    refine j_aload_n rfl rfl ?_
    refine j_getR (q := (o + 1)) rfl f_X1_9 rfl hO.1 hO.2.1 (hO.q 2 1 13 8 (by decide)).1 ?_
    refine j_iload_n rfl rfl ?_
    refine j_iald (n := 8) rfl (hO.q 2 1 13 8 (by decide)).2.1 (hO.q 2 1 13 8 (by decide)).2.2.1 (hO.q 2 1 13 8 (by decide)).2.2.2 (by omega) (by omega) (by decide) ?_
    have u11_1 := mi_rng m (o + 1) target.toNat
    refine j_goto (tgt := 17) rfl (by decide) ?_
    refine j_istore_n rfl (by decide) ?_
    refine j_iconst rfl ?_
    refine j_iload_n rfl rfl ?_
    refine j_iconst rfl ?_
    refine j_isub rfl ?_
    refine j_ishl rfl ?_
    have z22_2 := z_ishl_rng 1 ((mi m (o + 1) target.toNat) - 1)
    refine j_iconst rfl ?_
    refine j_isub rfl ?_
    refine j_iret rfl rfl ?_ rfl (Nat.le_refl _)
    unfold FX1_greatestFor
    rw [if_neg hb3_1]
    exact ⟨rfl, rfl⟩

def FX6_append (m : AM) (b : Int) : AM :=
  if (mi m 1 1) ≥ 160 then
    m
  else
    (si (si m 2 (mi m 1 1).toNat b) 1 1 ((mi m 1 1) + 1))
set_option maxRecDepth 20000 in
set_option maxHeartbeats 4000000 in
theorem ct_X6_append {G : QW} {m : AM} (hS : St m) (hI : IM m) {b : Int} (hb1 : -2147483648 ≤ b) (hb2 : b < 2147483648) : qM G mX6_append 0 0 0 [vR 1, vI b] m (fun r m' => r = none ∧ m' = FX6_append m b) := by
  refine qM.intro okX6_append (Nat.le_of_ble_eq_true rfl) ?_
  refine j_aload_n rfl rfl ?_
  refine j_getI rfl f_X6_15 rfl (hS.lt (by decide)) (hS.k (by decide) (by decide)) ?_
  have u1_1 := hI.s 1 1 (0) 160 (by decide)
  refine j_sipush rfl (by decide) ?_
  refine j_icmp_ge (tgt := 30) rfl (by decide) (by omega) (by omega) (by omega) (by omega) (fun hb7_1 => ?_) (fun hb7_1 => ?_)
  · skip
    refine j_vret rfl rfl ?_ rfl (Nat.le_refl _)
    unfold FX6_append
    rw [if_pos hb7_1]
    exact ⟨rfl, rfl⟩
  · skip
    refine j_aload_n rfl rfl ?_
    refine j_getR (q := 2) rfl f_X6_9 rfl (hS.lt (by decide)) (hS.k (by decide) (by decide)) (hS.r (by decide)) ?_
    refine j_aload_n rfl rfl ?_
    refine j_getI rfl f_X6_15 rfl (hS.lt (by decide)) (hS.k (by decide) (by decide)) ?_
    have u15_1 := hI.s 1 1 (0) 160 (by decide)
    refine j_iload_n rfl rfl ?_
    refine j_iast (n := 160) rfl (hS.lt (by decide)) (hS.k (by decide) (by decide)) (hS.n (by decide) (by decide)) (by omega) (by omega) (by first | decide | omega) ?_
    refine j_aload_n rfl rfl ?_
    refine j_dup rfl (Nat.ne_of_beq_eq_false rfl) ?_
    refine j_getI rfl f_X6_15 rfl (hS.lt (by decide)) (hS.k (by decide) (by decide)) ?_
    rw [show mi (si m 2 (mi m 1 1).toNat b) 1 1 = mi m 1 1 from by simp [mi_si, mi_fil, mi_cpr, mi_sl, mi_sr]]
    have u22_1 := hI.s 1 1 (0) 160 (by decide)
    refine j_iconst rfl ?_
    refine j_iadd rfl ?_
    refine j_putI rfl f_X6_15 rfl (hS.lt (by decide)) (hS.k (by decide) (by decide)) ?_
    refine j_vret rfl rfl ?_ rfl (Nat.le_refl _)
    unfold FX6_append
    rw [if_neg hb7_1]
    exact ⟨rfl, rfl⟩

def FX5_clear (m : AM) (o : Nat) : AM :=
  (si (si (si (si m o 5 0) o 6 0) o 7 0) o 8 0)
set_option maxRecDepth 20000 in
set_option maxHeartbeats 4000000 in
theorem ct_X5_clear {G : QW} {m : AM} {o : Nat} (hO : ObA m o 5 fsProg) : qM G mX5_clear 0 0 0 [vR o] m (fun r m' => r = none ∧ m' = FX5_clear m o) := by
  refine qM.intro okX5_clear (Nat.le_of_ble_eq_true rfl) ?_
  refine j_aload_n rfl rfl ?_
  refine j_iconst rfl ?_
  refine j_putI rfl f_X5_27 rfl hO.1 hO.2.1 ?_
  refine j_aload_n rfl rfl ?_
  refine j_iconst rfl ?_
  refine j_putI rfl f_X5_31 rfl hO.1 hO.2.1 ?_
  refine j_aload_n rfl rfl ?_
  refine j_iconst rfl ?_
  refine j_putI rfl f_X5_34 rfl hO.1 hO.2.1 ?_
  refine j_aload_n rfl rfl ?_
  refine j_iconst rfl ?_
  refine j_putI rfl f_X5_37 rfl hO.1 hO.2.1 ?_
  refine j_vret rfl rfl ?_ rfl (Nat.le_refl _)
  unfold FX5_clear
  exact ⟨rfl, rfl⟩

def FX5_append (m : AM) (o : Nat) (what : Int) (number : Int) : AM :=
  if (mi m o 5) ≥ 160 then
    m
  else
    (si (si m (o + 1) (mi m o 5).toNat (z_ior (z_ishl what 20) number)) o 5 ((mi (si m (o + 1) (mi m o 5).toNat (z_ior (z_ishl what 20) number)) o 5) + 1))
set_option maxRecDepth 20000 in
set_option maxHeartbeats 4000000 in
theorem ct_X5_append {G : QW} {m : AM} {o : Nat} {what : Int} {number : Int} (hwhat1 : -2147483648 ≤ what) (hwhat2 : what < 2147483648) (hnumber1 : -2147483648 ≤ number) (hnumber2 : number < 2147483648) (hO : ObA m o 5 fsProg) (h3 : 0 ≤ mi m o 5) : qM G mX5_append 0 0 0 [vR o, vI what, vI number] m (fun r m' => r = none ∧ m' = FX5_append m o what number) := by
  refine qM.intro okX5_append (Nat.le_of_ble_eq_true rfl) ?_
  refine j_aload_n rfl rfl ?_
  refine j_getI rfl f_X5_27 rfl hO.1 hO.2.1 ?_
  have u1_1 := mi_rng m o 5
  refine j_sipush rfl (by decide) ?_
  refine j_icmp_ge (tgt := 35) rfl (by decide) (by omega) (by omega) (by omega) (by omega) (fun hb7_1 => ?_) (fun hb7_1 => ?_)
  · skip
    refine j_vret rfl rfl ?_ rfl (Nat.le_refl _)
    unfold FX5_append
    rw [if_pos hb7_1]
    exact ⟨rfl, rfl⟩
  · skip
    refine j_aload_n rfl rfl ?_
    refine j_getR (q := (o + 1)) rfl f_X5_9 rfl hO.1 hO.2.1 (hO.q 0 1 13 160 (by decide)).1 ?_
    refine j_aload_n rfl rfl ?_
    refine j_getI rfl f_X5_27 rfl hO.1 hO.2.1 ?_
    have u15_1 := mi_rng m o 5
    refine j_iload_n rfl rfl ?_
    refine j_bipush rfl (by decide) ?_
    refine j_ishl rfl ?_
    have z21_1 := z_ishl_rng what 20
    refine j_iload_n rfl rfl ?_
    refine j_ior rfl ?_
    have z23_1 := z_ior_rng (z_ishl what 20) number
    refine j_iast (n := 160) rfl (hO.q 0 1 13 160 (by decide)).2.1 (hO.q 0 1 13 160 (by decide)).2.2.1 (hO.q 0 1 13 160 (by decide)).2.2.2 (by omega) (by omega) (by first | decide | omega) ?_
    refine j_aload_n rfl rfl ?_
    refine j_dup rfl (Nat.ne_of_beq_eq_false rfl) ?_
    refine j_getI rfl f_X5_27 rfl hO.1 hO.2.1 ?_
    have u27_1 := mi_rng (si m (o + 1) (mi m o 5).toNat (z_ior (z_ishl what 20) number)) o 5
    refine j_iconst rfl ?_
    refine j_iadd rfl ?_
    refine j_putI rfl f_X5_27 rfl hO.1 hO.2.1 ?_
    refine j_vret rfl rfl ?_ rfl (Nat.le_refl _)
    unfold FX5_append
    rw [if_neg hb7_1]
    exact ⟨rfl, rfl⟩

def FX8_tell (m : AM) (mach : Int) (k : Int) (least : Int) (greatest : Int) : AM :=
  (si (si m 13 ((mach * 3) + k).toNat least) 14 ((mach * 3) + k).toNat greatest)
set_option maxRecDepth 20000 in
set_option maxHeartbeats 4000000 in
theorem ct_X8_tell {G : QW} {m : AM} (hS : St m) (hI : IM m) {mach : Int} {k : Int} {least : Int} {greatest : Int} (hmach1 : -2147483648 ≤ mach) (hmach2 : mach < 2147483648) (hk1 : -2147483648 ≤ k) (hk2 : k < 2147483648) (hleast1 : -2147483648 ≤ least) (hleast2 : least < 2147483648) (hgreatest1 : -2147483648 ≤ greatest) (hgreatest2 : greatest < 2147483648) (h3 : 0 ≤ mach) (h4 : mach ≤ 1) (h5 : 0 ≤ k) (h6 : k ≤ 2) : qM G mX8_tell 0 0 0 [vR 12, vI mach, vI k, vI least, vI greatest] m (fun r m' => r = none ∧ m' = FX8_tell m mach k least greatest) := by
  refine qM.intro okX8_tell (Nat.le_of_ble_eq_true rfl) ?_
  refine j_aload_n rfl rfl ?_
  refine j_getR (q := 13) rfl f_X8_9 rfl (hS.lt (by decide)) (hS.k (by decide) (by decide)) (hS.r (by decide)) ?_
  refine j_iload_n rfl rfl ?_
  refine j_iconst rfl ?_
  refine j_imul rfl ?_
  refine j_iload_n rfl rfl ?_
  refine j_iadd rfl ?_
  refine j_iload_n rfl rfl ?_
  refine j_iast (n := 6) rfl (hS.lt (by decide)) (hS.k (by decide) (by decide)) (hS.n (by decide) (by decide)) (by omega) (by omega) (by first | decide | omega) ?_
  refine j_aload_n rfl rfl ?_
  refine j_getR (q := 14) rfl f_X8_15 rfl (hS.lt (by decide)) (hS.k (by decide) (by decide)) (hS.r (by decide)) ?_
  refine j_iload_n rfl rfl ?_
  refine j_iconst rfl ?_
  refine j_imul rfl ?_
  refine j_iload_n rfl rfl ?_
  refine j_iadd rfl ?_
  refine j_iload rfl rfl ?_
  refine j_iast (n := 6) rfl (hS.lt (by decide)) (hS.k (by decide) (by decide)) (hS.n (by decide) (by decide)) (by omega) (by omega) (by first | decide | omega) ?_
  refine j_vret rfl rfl ?_ rfl (Nat.le_refl _)
  unfold FX8_tell
  exact ⟨rfl, rfl⟩

def FX8_set (m : AM) (at0 : Int) (least : Int) (greatest : Int) : AM :=
  if (mi m 12 4) ≠ 0 then
    (si (sl (sl m 15 at0.toNat least) 16 at0.toNat greatest) 12 4 1)
  else
    if least < (-1000000000) then
      (si (sl (sl m 15 at0.toNat least) 16 at0.toNat greatest) 12 4 1)
    else
      if greatest ≤ 1000000000 then
        (si (sl (sl m 15 at0.toNat least) 16 at0.toNat greatest) 12 4 0)
      else
        (si (sl (sl m 15 at0.toNat least) 16 at0.toNat greatest) 12 4 1)
set_option maxRecDepth 20000 in
set_option maxHeartbeats 4000000 in
theorem ct_X8_set {G : QW} {m : AM} (hS : St m) (hI : IM m) {at0 : Int} {least : Int} {greatest : Int} (hat01 : -2147483648 ≤ at0) (hat02 : at0 < 2147483648) (h3 : 0 ≤ at0) (h4 : at0 ≤ 159) (hl1 : -9223372036854775808 ≤ least) (hl2 : least < 9223372036854775808) (hg1 : -9223372036854775808 ≤ greatest) (hg2 : greatest < 9223372036854775808) : qM G mX8_set 0 0 0 [vR 12, vI at0, vL least, vL greatest] m (fun r m' => r = none ∧ m' = FX8_set m at0 least greatest) := by
  refine qM.intro okX8_set (Nat.le_of_ble_eq_true rfl) ?_
  refine j_aload_n rfl rfl ?_
  refine j_getR (q := 15) rfl f_X8_18 rfl (hS.lt (by decide)) (hS.k (by decide) (by decide)) (hS.r (by decide)) ?_
  refine j_iload_n rfl rfl ?_
  refine j_lload_n rfl rfl ?_
  refine j_last (n := 160) rfl (hS.lt (by decide)) (hS.k (by decide) (by decide)) (hS.n (by decide) (by decide)) (by omega) (by omega) (by first | decide | omega) ?_
  refine j_aload_n rfl rfl ?_
  refine j_getR (q := 16) rfl f_X8_22 rfl (hS.lt (by decide)) (hS.k (by decide) (by decide)) (hS.r (by decide)) ?_
  refine j_iload_n rfl rfl ?_
  refine j_lload rfl rfl ?_
  refine j_last (n := 160) rfl (hS.lt (by decide)) (hS.k (by decide) (by decide)) (hS.n (by decide) (by decide)) (by omega) (by omega) (by first | decide | omega) ?_
  refine j_aload_n rfl rfl ?_
  refine j_aload_n rfl rfl ?_
  refine j_getI rfl f_X8_61 rfl (hS.lt (by decide)) (hS.k (by decide) (by decide)) ?_
  rw [show mi (sl (sl m 15 at0.toNat least) 16 at0.toNat greatest) 12 4 = mi m 12 4 from by simp [mi_si, mi_fil, mi_cpr, mi_sl, mi_sr]]
  have u17_1 := mi_rng m 12 4
  refine j_if_ne (tgt := 40) rfl (by decide) (by omega) (by omega) (fun hb20_1 => ?_) (fun hb20_1 => ?_)
  · skip
    refine j_iconst rfl ?_
    refine j_goto (tgt := 45) rfl (by decide) ?_
    refine j_putZ rfl f_X8_61 (by omega) rfl (hS.lt (by decide)) (hS.k (by decide) (by decide)) ?_
    refine j_vret rfl rfl ?_ rfl (Nat.le_refl _)
    unfold FX8_set
    rw [if_pos hb20_1]
    exact ⟨rfl, rfl⟩
  · skip
    refine j_lload_n rfl rfl ?_
    refine j_ldc2 (v := -1000000000) rfl k_X8_94 ?_
    refine j_lc_lt (tgt := 40) rfl rfl (by decide) (by omega) (by omega) (by omega) (by omega) (fun hb27_1 => ?_) (fun hb27_1 => ?_)
    · skip
      refine j_iconst rfl ?_
      refine j_goto (tgt := 45) rfl (by decide) ?_
      refine j_putZ rfl f_X8_61 (by omega) rfl (hS.lt (by decide)) (hS.k (by decide) (by decide)) ?_
      refine j_vret rfl rfl ?_ rfl (Nat.le_refl _)
      unfold FX8_set
      rw [if_neg (not_not_intro hb20_1), if_pos hb27_1]
      exact ⟨rfl, rfl⟩
    · skip
      refine j_lload rfl rfl ?_
      refine j_ldc2 (v := 1000000000) rfl k_X8_96 ?_
      refine j_lc_le (tgt := 44) rfl rfl (by decide) (by omega) (by omega) (by omega) (by omega) (fun hb36_1 => ?_) (fun hb36_1 => ?_)
      · skip
        refine j_iconst rfl ?_
        refine j_putZ rfl f_X8_61 (by omega) rfl (hS.lt (by decide)) (hS.k (by decide) (by decide)) ?_
        refine j_vret rfl rfl ?_ rfl (Nat.le_refl _)
        unfold FX8_set
        rw [if_neg (not_not_intro hb20_1), if_neg hb27_1, if_pos hb36_1]
        exact ⟨rfl, rfl⟩
      · skip
        refine j_iconst rfl ?_
        refine j_goto (tgt := 45) rfl (by decide) ?_
        refine j_putZ rfl f_X8_61 (by omega) rfl (hS.lt (by decide)) (hS.k (by decide) (by decide)) ?_
        refine j_vret rfl rfl ?_ rfl (Nat.le_refl _)
        unfold FX8_set
        rw [if_neg (not_not_intro hb20_1), if_neg hb27_1, if_neg hb36_1]
        exact ⟨rfl, rfl⟩

def FX2_clear (m : AM) : AM :=
  (si m 59 2 0)
set_option maxRecDepth 20000 in
set_option maxHeartbeats 4000000 in
theorem ct_X2_clear {G : QW} {m : AM} (hS : St m) (hI : IM m) : qM G mX2_clear 0 0 0 [vR 59] m (fun r m' => r = none ∧ m' = FX2_clear m) := by
  refine qM.intro okX2_clear (Nat.le_of_ble_eq_true rfl) ?_
  refine j_aload_n rfl rfl ?_
  refine j_iconst rfl ?_
  refine j_putI rfl f_X2_18 rfl (hS.lt (by decide)) (hS.k (by decide) (by decide)) ?_
  refine j_vret rfl rfl ?_ rfl (Nat.le_refl _)
  unfold FX2_clear
  exact ⟨rfl, rfl⟩

def FX2_note (m : AM) (set0 : Int) (misfit : Int) : AM :=
  if (mi m 59 2) ≥ 256 then
    m
  else
    (si (si (si m 60 (mi m 59 2).toNat (z_iand set0 misfit)) 61 (mi m 59 2).toNat misfit) 59 2 ((mi m 59 2) + 1))
set_option maxRecDepth 20000 in
set_option maxHeartbeats 4000000 in
theorem ct_X2_note {G : QW} {m : AM} (hS : St m) (hI : IM m) {set0 : Int} {misfit : Int} (hset01 : -2147483648 ≤ set0) (hset02 : set0 < 2147483648) (hmisfit1 : -2147483648 ≤ misfit) (hmisfit2 : misfit < 2147483648) (h3 : 0 ≤ mi m 59 2) : qM G mX2_note 0 0 0 [vR 59, vI set0, vI misfit] m (fun r m' => r = none ∧ m' = FX2_note m set0 misfit) := by
  refine qM.intro okX2_note (Nat.le_of_ble_eq_true rfl) ?_
  refine j_aload_n rfl rfl ?_
  refine j_getI rfl f_X2_18 rfl (hS.lt (by decide)) (hS.k (by decide) (by decide)) ?_
  have u1_1 := mi_rng m 59 2
  refine j_sipush rfl (by decide) ?_
  refine j_icmp_ge (tgt := 42) rfl (by decide) (by omega) (by omega) (by omega) (by omega) (fun hb7_1 => ?_) (fun hb7_1 => ?_)
  · skip
    refine j_vret rfl rfl ?_ rfl (Nat.le_refl _)
    unfold FX2_note
    rw [if_pos hb7_1]
    exact ⟨rfl, rfl⟩
  · skip
    refine j_aload_n rfl rfl ?_
    refine j_getR (q := 60) rfl f_X2_9 rfl (hS.lt (by decide)) (hS.k (by decide) (by decide)) (hS.r (by decide)) ?_
    refine j_aload_n rfl rfl ?_
    refine j_getI rfl f_X2_18 rfl (hS.lt (by decide)) (hS.k (by decide) (by decide)) ?_
    have u15_1 := mi_rng m 59 2
    refine j_iload_n rfl rfl ?_
    refine j_iload_n rfl rfl ?_
    refine j_iand rfl ?_
    have z20_1 := z_iand_rng set0 misfit
    refine j_iast (n := 256) rfl (hS.lt (by decide)) (hS.k (by decide) (by decide)) (hS.n (by decide) (by decide)) (by omega) (by omega) (by first | decide | omega) ?_
    refine j_aload_n rfl rfl ?_
    refine j_getR (q := 61) rfl f_X2_15 rfl (hS.lt (by decide)) (hS.k (by decide) (by decide)) (hS.r (by decide)) ?_
    refine j_aload_n rfl rfl ?_
    refine j_getI rfl f_X2_18 rfl (hS.lt (by decide)) (hS.k (by decide) (by decide)) ?_
    rw [show mi (si m 60 (mi m 59 2).toNat (z_iand set0 misfit)) 59 2 = mi m 59 2 from by simp [mi_si, mi_fil, mi_cpr, mi_sl, mi_sr]]
    have u27_1 := mi_rng m 59 2
    refine j_iload_n rfl rfl ?_
    refine j_iast (n := 256) rfl (hS.lt (by decide)) (hS.k (by decide) (by decide)) (hS.n (by decide) (by decide)) (by omega) (by omega) (by first | decide | omega) ?_
    refine j_aload_n rfl rfl ?_
    refine j_dup rfl (Nat.ne_of_beq_eq_false rfl) ?_
    refine j_getI rfl f_X2_18 rfl (hS.lt (by decide)) (hS.k (by decide) (by decide)) ?_
    rw [show mi (si (si m 60 (mi m 59 2).toNat (z_iand set0 misfit)) 61 (mi m 59 2).toNat misfit) 59 2 = mi m 59 2 from by simp [mi_si, mi_fil, mi_cpr, mi_sl, mi_sr]]
    have u34_1 := mi_rng m 59 2
    refine j_iconst rfl ?_
    refine j_iadd rfl ?_
    refine j_putI rfl f_X2_18 rfl (hS.lt (by decide)) (hS.k (by decide) (by decide)) ?_
    refine j_vret rfl rfl ?_ rfl (Nat.le_refl _)
    unfold FX2_note
    rw [if_neg hb7_1]
    exact ⟨rfl, rfl⟩

def FX4_alongOf (m : AM) (q : Int) : Int :=
  if q < 0 then
    0
  else
    if q ≥ (mi m 6 5) then
      0
    else
      mi m 10 q.toNat
set_option maxRecDepth 20000 in
set_option maxHeartbeats 4000000 in
theorem ct_X4_alongOf {G : QW} {m : AM} (hS : St m) (hI : IM m) {q : Int} (hq1 : -2147483648 ≤ q) (hq2 : q < 2147483648) : qM G mX4_alongOf 0 0 0 [vR 6, vI q] m (fun r m' => r = some (vI (FX4_alongOf m q)) ∧ m' = m) := by
  refine qM.intro okX4_alongOf (Nat.le_of_ble_eq_true rfl) ?_
  refine j_iload_n rfl rfl ?_
  refine j_if_lt (tgt := 21) rfl (by decide) (by omega) (by omega) (fun hb1_1 => ?_) (fun hb1_1 => ?_)
  · skip
    refine j_iconst rfl ?_
    refine j_iret rfl rfl ?_ rfl (Nat.le_refl _)
    unfold FX4_alongOf
    rw [if_pos hb1_1]
    exact ⟨rfl, rfl⟩
  · skip
    refine j_iload_n rfl rfl ?_
    refine j_aload_n rfl rfl ?_
    refine j_getI rfl f_X4_33 rfl (hS.lt (by decide)) (hS.k (by decide) (by decide)) ?_
    have u6_1 := hI.s 6 5 (0) 20 (by decide)
    refine j_icmp_ge (tgt := 21) rfl (by decide) (by omega) (by omega) (by omega) (by omega) (fun hb9_1 => ?_) (fun hb9_1 => ?_)
    · skip
      refine j_iconst rfl ?_
      refine j_iret rfl rfl ?_ rfl (Nat.le_refl _)
      unfold FX4_alongOf
      rw [if_neg hb1_1, if_pos hb9_1]
      exact ⟨rfl, rfl⟩
    · skip
      refine j_aload_n rfl rfl ?_
      refine j_getR (q := 10) rfl f_X4_21 rfl (hS.lt (by decide)) (hS.k (by decide) (by decide)) (hS.r (by decide)) ?_
      refine j_iload_n rfl rfl ?_
      refine j_iald (n := 20) rfl (hS.lt (by decide)) (hS.k (by decide) (by decide)) (hS.n (by decide) (by decide)) (by omega) (by omega) (by decide) ?_
      have u17_1 := mi_rng m 10 q.toNat
      refine j_goto (tgt := 22) rfl (by decide) ?_
      refine j_iret rfl rfl ?_ rfl (Nat.le_refl _)
      unfold FX4_alongOf
      rw [if_neg hb1_1, if_neg hb9_1]
      exact ⟨rfl, rfl⟩

def FX4_write (m : AM) (sort : Int) (k : Int) (v : Int) (ground : Int) : Int × AM :=
  (mi m 6 5, (si (si (si (si (si m 7 (mi m 6 5).toNat sort) 8 (mi m 6 5).toNat k) 9 (mi m 6 5).toNat v) 10 (mi m 6 5).toNat (z_ior ground (z_ishl 1 (mi m 6 5)))) 6 5 ((mi m 6 5) + 1)))
set_option maxRecDepth 20000 in
set_option maxHeartbeats 4000000 in
theorem ct_X4_write {G : QW} {m : AM} (hS : St m) (hI : IM m) {sort : Int} {k : Int} {v : Int} {ground : Int} (hsort1 : -2147483648 ≤ sort) (hsort2 : sort < 2147483648) (hk1 : -2147483648 ≤ k) (hk2 : k < 2147483648) (hv1 : -2147483648 ≤ v) (hv2 : v < 2147483648) (hground1 : -2147483648 ≤ ground) (hground2 : ground < 2147483648) (h3 : mi m 6 5 ≤ 19) : qM G mX4_write 0 0 0 [vR 6, vI sort, vI k, vI v, vI ground] m (fun r m' => r = some (vI (FX4_write m sort k v ground).1) ∧ m' = (FX4_write m sort k v ground).2) := by
  refine qM.intro okX4_write (Nat.le_of_ble_eq_true rfl) ?_
  refine j_aload_n rfl rfl ?_
  refine j_getR (q := 7) rfl f_X4_9 rfl (hS.lt (by decide)) (hS.k (by decide) (by decide)) (hS.r (by decide)) ?_
  refine j_aload_n rfl rfl ?_
  refine j_getI rfl f_X4_33 rfl (hS.lt (by decide)) (hS.k (by decide) (by decide)) ?_
  have u5_1 := hI.s 6 5 (0) 20 (by decide)
  refine j_iload_n rfl rfl ?_
  refine j_iast (n := 20) rfl (hS.lt (by decide)) (hS.k (by decide) (by decide)) (hS.n (by decide) (by decide)) (by omega) (by omega) (by first | decide | omega) ?_
  refine j_aload_n rfl rfl ?_
  refine j_getR (q := 8) rfl f_X4_15 rfl (hS.lt (by decide)) (hS.k (by decide) (by decide)) (hS.r (by decide)) ?_
  refine j_aload_n rfl rfl ?_
  refine j_getI rfl f_X4_33 rfl (hS.lt (by decide)) (hS.k (by decide) (by decide)) ?_
  rw [show mi (si m 7 (mi m 6 5).toNat sort) 6 5 = mi m 6 5 from by simp [mi_si, mi_fil, mi_cpr, mi_sl, mi_sr]]
  have u15_1 := hI.s 6 5 (0) 20 (by decide)
  refine j_iload_n rfl rfl ?_
  refine j_iast (n := 20) rfl (hS.lt (by decide)) (hS.k (by decide) (by decide)) (hS.n (by decide) (by decide)) (by omega) (by omega) (by first | decide | omega) ?_
  refine j_aload_n rfl rfl ?_
  refine j_getR (q := 9) rfl f_X4_18 rfl (hS.lt (by decide)) (hS.k (by decide) (by decide)) (hS.r (by decide)) ?_
  refine j_aload_n rfl rfl ?_
  refine j_getI rfl f_X4_33 rfl (hS.lt (by decide)) (hS.k (by decide) (by decide)) ?_
  rw [show mi (si (si m 7 (mi m 6 5).toNat sort) 8 (mi m 6 5).toNat k) 6 5 = mi m 6 5 from by simp [mi_si, mi_fil, mi_cpr, mi_sl, mi_sr]]
  have u25_1 := hI.s 6 5 (0) 20 (by decide)
  refine j_iload_n rfl rfl ?_
  refine j_iast (n := 20) rfl (hS.lt (by decide)) (hS.k (by decide) (by decide)) (hS.n (by decide) (by decide)) (by omega) (by omega) (by first | decide | omega) ?_
  refine j_aload_n rfl rfl ?_
  refine j_getR (q := 10) rfl f_X4_21 rfl (hS.lt (by decide)) (hS.k (by decide) (by decide)) (hS.r (by decide)) ?_
  refine j_aload_n rfl rfl ?_
  refine j_getI rfl f_X4_33 rfl (hS.lt (by decide)) (hS.k (by decide) (by decide)) ?_
  rw [show mi (si (si (si m 7 (mi m 6 5).toNat sort) 8 (mi m 6 5).toNat k) 9 (mi m 6 5).toNat v) 6 5 = mi m 6 5 from by simp [mi_si, mi_fil, mi_cpr, mi_sl, mi_sr]]
  have u35_1 := hI.s 6 5 (0) 20 (by decide)
  refine j_iload rfl rfl ?_
  refine j_iconst rfl ?_
  refine j_aload_n rfl rfl ?_
  refine j_getI rfl f_X4_33 rfl (hS.lt (by decide)) (hS.k (by decide) (by decide)) ?_
  rw [show mi (si (si (si m 7 (mi m 6 5).toNat sort) 8 (mi m 6 5).toNat k) 9 (mi m 6 5).toNat v) 6 5 = mi m 6 5 from by simp [mi_si, mi_fil, mi_cpr, mi_sl, mi_sr]]
  have u42_1 := hI.s 6 5 (0) 20 (by decide)
  refine j_ishl rfl ?_
  have z45_1 := z_ishl_rng 1 (mi m 6 5)
  refine j_ior rfl ?_
  have z46_1 := z_ior_rng ground (z_ishl 1 (mi m 6 5))
  refine j_iast (n := 20) rfl (hS.lt (by decide)) (hS.k (by decide) (by decide)) (hS.n (by decide) (by decide)) (by omega) (by omega) (by first | decide | omega) ?_
  refine j_aload_n rfl rfl ?_
  refine j_dup rfl (Nat.ne_of_beq_eq_false rfl) ?_
  refine j_getI rfl f_X4_33 rfl (hS.lt (by decide)) (hS.k (by decide) (by decide)) ?_
  rw [show mi (si (si (si (si m 7 (mi m 6 5).toNat sort) 8 (mi m 6 5).toNat k) 9 (mi m 6 5).toNat v) 10 (mi m 6 5).toNat (z_ior ground (z_ishl 1 (mi m 6 5)))) 6 5 = mi m 6 5 from by simp [mi_si, mi_fil, mi_cpr, mi_sl, mi_sr]]
  have u50_1 := hI.s 6 5 (0) 20 (by decide)
  refine j_dup_x1 rfl (Nat.ne_of_beq_eq_false rfl) (Nat.ne_of_beq_eq_false rfl) ?_
  refine j_iconst rfl ?_
  refine j_iadd rfl ?_
  refine j_putI rfl f_X4_33 rfl (hS.lt (by decide)) (hS.k (by decide) (by decide)) ?_
  refine j_iret rfl rfl ?_ rfl (Nat.le_refl _)
  unfold FX4_write
  exact ⟨rfl, rfl⟩


def FX8_setBits (m : AM) (at0 : Int) (most : Int) : AM :=
  (FX8_set m at0 ((-most) - 1) most)
set_option maxRecDepth 20000 in
set_option maxHeartbeats 4000000 in
theorem ct_X8_setBits {G : QW} {m : AM} (hS : St m) (hI : IM m) {at0 : Int} {most : Int} (hat01 : -2147483648 ≤ at0) (hat02 : at0 < 2147483648) (hmost1 : -2147483648 ≤ most) (hmost2 : most < 2147483648) (h3 : 0 ≤ at0) (h4 : at0 ≤ 159) (h5 : 0 ≤ most) (h6 : most ≤ 1048575) : qM G mX8_setBits 1 0 0 [vR 12, vI at0, vI most] m (fun r m' => r = none ∧ m' = FX8_setBits m at0 most) := by
  refine qM.intro okX8_setBits (Nat.le_of_ble_eq_true rfl) ?_
  refine j_aload_n rfl rfl ?_
  refine j_iload_n rfl rfl ?_
  refine j_iload_n rfl rfl ?_
  refine j_ineg rfl ?_
  refine j_iconst rfl ?_
  refine j_isub rfl ?_
  refine j_i2l rfl (by omega) (by omega) ?_
  refine j_iload_n rfl rfl ?_
  refine j_i2l rfl (by omega) (by omega) ?_
  refine j_callV (ci := 8) rfl okX8_set c_X8_78 (ct_X8_set hS hI (by omega) (by omega) (by omega) (by omega) (by omega) (by omega) (by omega) (by omega)) rfl rfl (hS.lt (by decide)) (hS.k (by decide) (by decide)) (by decide) rfl (Nat.le_of_ble_eq_true rfl) (by decide) (by decide) ?_
  rintro vq mq ⟨e1, e2⟩
  rw [e1, e2]
  clear e1 e2
  simp only [Option.toList_some, Option.toList_none, List.cons_append, List.nil_append]
  refine j_vret rfl rfl ?_ rfl (Nat.le_refl _)
  unfold FX8_setBits
  exact ⟨rfl, rfl⟩

def FX8_leastShown (m : AM) : Int :=
  z_l2i (ml m 15 (0 : Int).toNat)
set_option maxRecDepth 20000 in
set_option maxHeartbeats 4000000 in
theorem ct_X8_leastShown {G : QW} {m : AM} (hS : St m) (hI : IM m) : qM G mX8_leastShown 0 0 0 [vR 12] m (fun r m' => r = some (vI (FX8_leastShown m)) ∧ m' = m) := by
  refine qM.intro okX8_leastShown (Nat.le_of_ble_eq_true rfl) ?_
  refine j_aload_n rfl rfl ?_
  refine j_getR (q := 15) rfl f_X8_18 rfl (hS.lt (by decide)) (hS.k (by decide) (by decide)) (hS.r (by decide)) ?_
  refine j_iconst rfl ?_
  refine j_lald (n := 160) rfl (hS.lt (by decide)) (hS.k (by decide) (by decide)) (hS.n (by decide) (by decide)) (by omega) (by omega) (by decide) ?_
  have u5_1 := ml_rng m 15 (0 : Int).toNat
  refine j_l2iW rfl ?_
  have z6_1 := z_l2i_rng (ml m 15 (0 : Int).toNat)
  refine j_iret rfl rfl ?_ rfl (Nat.le_refl _)
  unfold FX8_leastShown
  exact ⟨rfl, rfl⟩

def FX8_greatestShown (m : AM) : Int :=
  z_l2i (ml m 16 (0 : Int).toNat)
set_option maxRecDepth 20000 in
set_option maxHeartbeats 4000000 in
theorem ct_X8_greatestShown {G : QW} {m : AM} (hS : St m) (hI : IM m) : qM G mX8_greatestShown 0 0 0 [vR 12] m (fun r m' => r = some (vI (FX8_greatestShown m)) ∧ m' = m) := by
  refine qM.intro okX8_greatestShown (Nat.le_of_ble_eq_true rfl) ?_
  refine j_aload_n rfl rfl ?_
  refine j_getR (q := 16) rfl f_X8_22 rfl (hS.lt (by decide)) (hS.k (by decide) (by decide)) (hS.r (by decide)) ?_
  refine j_iconst rfl ?_
  refine j_lald (n := 160) rfl (hS.lt (by decide)) (hS.k (by decide) (by decide)) (hS.n (by decide) (by decide)) (by omega) (by omega) (by decide) ?_
  have u5_1 := ml_rng m 16 (0 : Int).toNat
  refine j_l2iW rfl ?_
  have z6_1 := z_l2i_rng (ml m 16 (0 : Int).toNat)
  refine j_iret rfl rfl ?_ rfl (Nat.le_refl _)
  unfold FX8_greatestShown
  exact ⟨rfl, rfl⟩

set_option maxRecDepth 20000 in
set_option maxHeartbeats 4000000 in
theorem ct_X4_hasSigned {G : QW} {m : AM} (hS : St m) (hI : IM m) {p : Int} {w : Int} (hp1 : -2147483648 ≤ p) (hp2 : p < 2147483648) (hw1 : -2147483648 ≤ w) (hw2 : w < 2147483648) (h3 : 0 ≤ p ∧ p ≤ 11) (h4 : 0 ≤ w ∧ w ≤ 19) : qM G mX4_hasSigned 0 0 0 [vR 6, vI p, vI w] m (fun r m' => r = some (vI (if mi m 11 (((p * 20) + w).toNat) ≠ -1 then 1 else 0)) ∧ m' = m) := by
  refine qM.intro okX4_hasSigned (Nat.le_of_ble_eq_true rfl) ?_
  refine j_aload_n rfl rfl ?_
  refine j_getR (q := 11) rfl f_X4_24 rfl (hS.lt (by decide)) (hS.k (by decide) (by decide)) (hS.r (by decide)) ?_
  refine j_iload_n rfl rfl ?_
  refine j_bipush rfl (by decide) ?_
  refine j_imul rfl ?_
  refine j_iload_n rfl rfl ?_
  refine j_iadd rfl ?_
  refine j_iald (n := 240) rfl (hS.lt (by decide)) (hS.k (by decide) (by decide)) (hS.n (by decide) (by decide)) (by omega) (by omega) (by decide) ?_
  have u10_1 := mi_rng m 11 ((p * 20) + w).toNat
  refine j_iconst rfl ?_
  refine j_icmp_eq (tgt := 19) rfl (by decide) (by omega) (by omega) (by omega) (by omega) (fun hb12_1 => ?_) (fun hb12_1 => ?_)
  · skip
    refine j_iconst rfl ?_
    refine j_zret rfl rfl (by decide) ?_ rfl (Nat.le_refl _)
    exact ⟨by first | (rw [if_pos (by omega)]; done) | (rw [if_neg (by omega)]; done) | (exfalso; omega), rfl⟩
  · skip
    refine j_iconst rfl ?_
    refine j_goto (tgt := 20) rfl (by decide) ?_
    refine j_zret rfl rfl (by decide) ?_ rfl (Nat.le_refl _)
    exact ⟨by first | (rw [if_pos (by omega)]; done) | (rw [if_neg (by omega)]; done) | (exfalso; omega), rfl⟩

set_option maxRecDepth 20000 in
set_option maxHeartbeats 4000000 in
theorem ct_X8_isWithinSize {G : QW} {m : AM} (hS : St m) (hI : IM m) {b : Int} {k : Int} {most : Int} (hb1 : -2147483648 ≤ b) (hb2 : b < 2147483648) (hk1 : -2147483648 ≤ k) (hk2 : k < 2147483648) (hmost1 : -2147483648 ≤ most) (hmost2 : most < 2147483648) (h3 : 0 ≤ b ∧ b ≤ 1) (h4 : 0 ≤ k ∧ k ≤ 2) (h5 : 0 ≤ most) : qM G mX8_isWithinSize 0 0 0 [vR 12, vI b, vI k, vI most] m (fun r m' => r = some (vI (if -most ≤ mi m 13 (((b * 3) + k).toNat) ∧ mi m 14 (((b * 3) + k).toNat) ≤ most then 1 else 0)) ∧ m' = m) := by
  refine qM.intro okX8_isWithinSize (Nat.le_of_ble_eq_true rfl) ?_
  refine j_aload_n rfl rfl ?_
  refine j_getR (q := 13) rfl f_X8_9 rfl (hS.lt (by decide)) (hS.k (by decide) (by decide)) (hS.r (by decide)) ?_
  refine j_iload_n rfl rfl ?_
  refine j_iconst rfl ?_
  refine j_imul rfl ?_
  refine j_iload_n rfl rfl ?_
  refine j_iadd rfl ?_
  refine j_iald (n := 6) rfl (hS.lt (by decide)) (hS.k (by decide) (by decide)) (hS.n (by decide) (by decide)) (by omega) (by omega) (by decide) ?_
  have u9_1 := hI.a 13 (-99999) 99999 (by decide) ((b * 3) + k).toNat
  refine j_iload_n rfl rfl ?_
  refine j_ineg rfl ?_
  refine j_icmp_lt (tgt := 33) rfl (by decide) (by omega) (by omega) (by omega) (by omega) (fun hb12_1 => ?_) (fun hb12_1 => ?_)
  · skip
    refine j_iconst rfl ?_
    refine j_zret rfl rfl (by decide) ?_ rfl (Nat.le_refl _)
    exact ⟨by first | (rw [if_pos (by omega)]; done) | (rw [if_neg (by omega)]; done) | (exfalso; omega), rfl⟩
  · skip
    refine j_aload_n rfl rfl ?_
    refine j_getR (q := 14) rfl f_X8_15 rfl (hS.lt (by decide)) (hS.k (by decide) (by decide)) (hS.r (by decide)) ?_
    refine j_iload_n rfl rfl ?_
    refine j_iconst rfl ?_
    refine j_imul rfl ?_
    refine j_iload_n rfl rfl ?_
    refine j_iadd rfl ?_
    refine j_iald (n := 6) rfl (hS.lt (by decide)) (hS.k (by decide) (by decide)) (hS.n (by decide) (by decide)) (by omega) (by omega) (by decide) ?_
    have u24_1 := hI.a 14 (-99999) 99999 (by decide) ((b * 3) + k).toNat
    refine j_iload_n rfl rfl ?_
    refine j_icmp_gt (tgt := 33) rfl (by decide) (by omega) (by omega) (by omega) (by omega) (fun hb26_1 => ?_) (fun hb26_1 => ?_)
    · skip
      refine j_iconst rfl ?_
      refine j_zret rfl rfl (by decide) ?_ rfl (Nat.le_refl _)
      exact ⟨by first | (rw [if_pos (by omega)]; done) | (rw [if_neg (by omega)]; done) | (exfalso; omega), rfl⟩
    · skip
      refine j_iconst rfl ?_
      refine j_goto (tgt := 34) rfl (by decide) ?_
      refine j_zret rfl rfl (by decide) ?_ rfl (Nat.le_refl _)
      exact ⟨by first | (rw [if_pos (by omega)]; done) | (rw [if_neg (by omega)]; done) | (exfalso; omega), rfl⟩


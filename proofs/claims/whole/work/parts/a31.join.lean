theorem abs_rngL (m : AM) (a : Int) (h : -1000000000 ≤ a) (h2 : a ≤ 1000000000) : 0 ≤ FJ9_abs_067f4 m a ∧ FJ9_abs_067f4 m a ≤ 1000000000 := by
  unfold FJ9_abs_067f4
  (repeat' split) <;> omega

def FX8_divide (m : AM) (what : Int) (at0 : Int) : AM :=
  if (ml m 15 (at0 + 1).toNat) > 0 then
    if what ≠ 16 then
      (FX8_setEnds m at0 ((ml m 15 at0.toNat).tdiv (ml m 15 (at0 + 1).toNat)) ((ml m 15 at0.toNat).tdiv (ml m 16 (at0 + 1).toNat)) ((ml m 16 at0.toNat).tdiv (ml m 15 (at0 + 1).toNat)) ((ml m 16 at0.toNat).tdiv (ml m 16 (at0 + 1).toNat)))
    else
      (FX8_set m at0 (-((FJ9_max_f86c9 m (FJ9_abs_067f4 m (ml m 15 (at0 + 1).toNat)) (FJ9_abs_067f4 m (ml m 16 (at0 + 1).toNat))) - 1)) ((FJ9_max_f86c9 m (FJ9_abs_067f4 m (ml m 15 (at0 + 1).toNat)) (FJ9_abs_067f4 m (ml m 16 (at0 + 1).toNat))) - 1))
  else
    if (ml m 16 (at0 + 1).toNat) < 0 then
      if what ≠ 16 then
        (FX8_setEnds m at0 ((ml m 15 at0.toNat).tdiv (ml m 15 (at0 + 1).toNat)) ((ml m 15 at0.toNat).tdiv (ml m 16 (at0 + 1).toNat)) ((ml m 16 at0.toNat).tdiv (ml m 15 (at0 + 1).toNat)) ((ml m 16 at0.toNat).tdiv (ml m 16 (at0 + 1).toNat)))
      else
        (FX8_set m at0 (-((FJ9_max_f86c9 m (FJ9_abs_067f4 m (ml m 15 (at0 + 1).toNat)) (FJ9_abs_067f4 m (ml m 16 (at0 + 1).toNat))) - 1)) ((FJ9_max_f86c9 m (FJ9_abs_067f4 m (ml m 15 (at0 + 1).toNat)) (FJ9_abs_067f4 m (ml m 16 (at0 + 1).toNat))) - 1))
    else
      (si m 12 4 1)
set_option maxRecDepth 20000 in
set_option maxHeartbeats 4000000 in
theorem ct_X8_divide {G : QW} {m : AM} (hS : St m) (hI : IM m) {what : Int} {at0 : Int} (hwhat1 : -2147483648 ≤ what) (hwhat2 : what < 2147483648) (hat01 : -2147483648 ≤ at0) (hat02 : at0 < 2147483648) (h3 : 0 ≤ at0) (h4 : at0 ≤ 158) (ha : -1000000000 ≤ (ml m 15 at0.toNat) ∧ (ml m 15 at0.toNat) ≤ 1000000000) (hb : -1000000000 ≤ (ml m 16 at0.toNat) ∧ (ml m 16 at0.toNat) ≤ 1000000000) (hc : -1000000000 ≤ (ml m 15 (at0 + 1).toNat) ∧ (ml m 15 (at0 + 1).toNat) ≤ 1000000000) (hd : -1000000000 ≤ (ml m 16 (at0 + 1).toNat) ∧ (ml m 16 (at0 + 1).toNat) ≤ 1000000000) (hcd : (ml m 15 (at0 + 1).toNat) ≤ (ml m 16 (at0 + 1).toNat)) : qM G mX8_divide 2 0 0 [vR 12, vI what, vI at0] m (fun r m' => r = none ∧ m' = FX8_divide m what at0) := by
  refine qM.intro okX8_divide (Nat.le_of_ble_eq_true rfl) ?_
  refine j_aload_n rfl rfl ?_
  refine j_getR (q := 15) rfl f_X8_18 rfl (hS.lt (by decide)) (hS.k (by decide) (by decide)) (hS.r (by decide)) ?_
  refine j_iload_n rfl rfl ?_
  refine j_iconst rfl ?_
  refine j_iadd rfl ?_
  refine j_lald (n := 160) rfl (hS.lt (by decide)) (hS.k (by decide) (by decide)) (hS.n (by decide) (by decide)) (by omega) (by omega) (by decide) ?_
  have u7_1 := ml_rng m 15 (at0 + 1).toNat
  refine j_lstore_n rfl (by decide) ?_
  refine j_aload_n rfl rfl ?_
  refine j_getR (q := 16) rfl f_X8_22 rfl (hS.lt (by decide)) (hS.k (by decide) (by decide)) (hS.r (by decide)) ?_
  refine j_iload_n rfl rfl ?_
  refine j_iconst rfl ?_
  refine j_iadd rfl ?_
  refine j_lald (n := 160) rfl (hS.lt (by decide)) (hS.k (by decide) (by decide)) (hS.n (by decide) (by decide)) (by omega) (by omega) (by decide) ?_
  have u16_1 := ml_rng m 16 (at0 + 1).toNat
  refine j_lstore rfl (by decide) ?_
  refine j_lload_n rfl rfl ?_
  refine j_lconst (v := 0) rfl (by decide) ?_
  refine j_lc_gt (tgt := 40) rfl rfl (by decide) (by omega) (by omega) (by omega) (by omega) (fun hb21_1 => ?_) (fun hb21_1 => ?_)
  · skip
    refine j_iload_n rfl rfl ?_
    refine j_bipush rfl (by decide) ?_
    refine j_icmp_ne (tgt := 75) rfl (by decide) (by omega) (by omega) (by omega) (by omega) (fun hb43_1 => ?_) (fun hb43_1 => ?_)
    · skip
      have q0 := abs_tdiv (y := (ml m 15 (at0 + 1).toNat)) ha.1 ha.2
      have q1 := abs_tdiv (y := (ml m 16 (at0 + 1).toNat)) ha.1 ha.2
      have q2 := abs_tdiv (y := (ml m 15 (at0 + 1).toNat)) hb.1 hb.2
      have q3 := abs_tdiv (y := (ml m 16 (at0 + 1).toNat)) hb.1 hb.2
      refine j_aload_n rfl rfl ?_
      refine j_iload_n rfl rfl ?_
      refine j_aload_n rfl rfl ?_
      refine j_getR (q := 15) rfl f_X8_18 rfl (hS.lt (by decide)) (hS.k (by decide) (by decide)) (hS.r (by decide)) ?_
      refine j_iload_n rfl rfl ?_
      refine j_lald (n := 160) rfl (hS.lt (by decide)) (hS.k (by decide) (by decide)) (hS.n (by decide) (by decide)) (by omega) (by omega) (by decide) ?_
      have u82_1 := ml_rng m 15 at0.toNat
      refine j_lload_n rfl rfl ?_
      refine j_ldiv rfl (by omega) (by omega) (by omega) (by omega) (by omega) ?_
      refine j_aload_n rfl rfl ?_
      refine j_getR (q := 15) rfl f_X8_18 rfl (hS.lt (by decide)) (hS.k (by decide) (by decide)) (hS.r (by decide)) ?_
      refine j_iload_n rfl rfl ?_
      refine j_lald (n := 160) rfl (hS.lt (by decide)) (hS.k (by decide) (by decide)) (hS.n (by decide) (by decide)) (by omega) (by omega) (by decide) ?_
      have u90_1 := ml_rng m 15 at0.toNat
      refine j_lload rfl rfl ?_
      refine j_ldiv rfl (by omega) (by omega) (by omega) (by omega) (by omega) ?_
      refine j_aload_n rfl rfl ?_
      refine j_getR (q := 16) rfl f_X8_22 rfl (hS.lt (by decide)) (hS.k (by decide) (by decide)) (hS.r (by decide)) ?_
      refine j_iload_n rfl rfl ?_
      refine j_lald (n := 160) rfl (hS.lt (by decide)) (hS.k (by decide) (by decide)) (hS.n (by decide) (by decide)) (by omega) (by omega) (by decide) ?_
      have u99_1 := ml_rng m 16 at0.toNat
      refine j_lload_n rfl rfl ?_
      refine j_ldiv rfl (by omega) (by omega) (by omega) (by omega) (by omega) ?_
      refine j_aload_n rfl rfl ?_
      refine j_getR (q := 16) rfl f_X8_22 rfl (hS.lt (by decide)) (hS.k (by decide) (by decide)) (hS.r (by decide)) ?_
      refine j_iload_n rfl rfl ?_
      refine j_lald (n := 160) rfl (hS.lt (by decide)) (hS.k (by decide) (by decide)) (hS.n (by decide) (by decide)) (by omega) (by omega) (by decide) ?_
      have u107_1 := ml_rng m 16 at0.toNat
      refine j_lload rfl rfl ?_
      refine j_ldiv rfl (by omega) (by omega) (by omega) (by omega) (by omega) ?_
      refine j_callV (ci := 8) rfl okX8_setEnds c_X8_98 (ct_X8_setEnds hS hI (by omega) (by omega) (by omega) (by omega) (by omega) (by omega) (by omega) (by omega)) rfl rfl (hS.lt (by decide)) (hS.k (by decide) (by decide)) (by decide) rfl (Nat.le_of_ble_eq_true rfl) (by decide) (by decide) ?_
      rintro vq mq ⟨e1, e2⟩
      rw [e1, e2]
      clear e1 e2
      simp only [Option.toList_some, Option.toList_none, List.cons_append, List.nil_append]
      refine j_vret rfl rfl ?_ rfl (Nat.le_refl _)
      unfold FX8_divide
      rw [if_pos hb21_1, if_pos hb43_1]
      exact ⟨rfl, rfl⟩
    · skip
      refine j_lload_n rfl rfl ?_
      refine j_callS (As := [_]) rfl okJ9_abs_067f4 c_X8_105 (ct_J9_abs_067f4 (by omega) (by omega)) rfl rfl (Nat.le_of_ble_eq_true rfl) (by decide) (by decide) ?_
      rintro vq mq ⟨e1, e2⟩
      rw [e1, e2]
      clear e1 e2
      simp only [Option.toList_some, Option.toList_none, List.cons_append, List.nil_append]
      have habs69 := abs_rngL m (ml m 15 (at0 + 1).toNat) (by omega) (by omega)
      refine j_lload rfl rfl ?_
      refine j_callS (As := [_]) rfl okJ9_abs_067f4 c_X8_105 (ct_J9_abs_067f4 (by omega) (by omega)) rfl rfl (Nat.le_of_ble_eq_true rfl) (by decide) (by decide) ?_
      rintro vq mq ⟨e1, e2⟩
      rw [e1, e2]
      clear e1 e2
      simp only [Option.toList_some, Option.toList_none, List.cons_append, List.nil_append]
      have habs76 := abs_rngL m (ml m 16 (at0 + 1).toNat) (by omega) (by omega)
      refine j_callS (As := [_, _]) rfl okJ9_max_f86c9 c_X8_111 (ct_J9_max_f86c9 (by omega) (by omega) (by omega) (by omega)) rfl rfl (Nat.le_of_ble_eq_true rfl) (by decide) (by decide) ?_
      rintro vq mq ⟨e1, e2⟩
      rw [e1, e2]
      clear e1 e2
      simp only [Option.toList_some, Option.toList_none, List.cons_append, List.nil_append]
      have hmxL := maxL_rng m (FJ9_abs_067f4 m (ml m 15 (at0 + 1).toNat)) (FJ9_abs_067f4 m (ml m 16 (at0 + 1).toNat))
      refine j_lconst (v := 1) rfl (by decide) ?_
      refine j_lsub rfl ?_
      refine j_lstore rfl (by decide) ?_
      refine j_aload_n rfl rfl ?_
      refine j_iload_n rfl rfl ?_
      refine j_lload rfl rfl ?_
      refine j_lneg rfl ?_
      refine j_lload rfl rfl ?_
      refine j_callV (ci := 8) rfl okX8_set c_X8_78 (ct_X8_set hS hI (by omega) (by omega) (by omega) (by omega) (by omega) (by omega) (by omega) (by omega)) rfl rfl (hS.lt (by decide)) (hS.k (by decide) (by decide)) (by decide) rfl (Nat.le_of_ble_eq_true rfl) (by decide) (by decide) ?_
      rintro vq mq ⟨e1, e2⟩
      rw [e1, e2]
      clear e1 e2
      simp only [Option.toList_some, Option.toList_none, List.cons_append, List.nil_append]
      refine j_goto (tgt := 114) rfl (by decide) ?_
      refine j_vret rfl rfl ?_ rfl (Nat.le_refl _)
      unfold FX8_divide
      rw [if_pos hb21_1, if_neg (not_not_intro hb43_1)]
      exact ⟨rfl, rfl⟩
  · skip
    refine j_lload rfl rfl ?_
    refine j_lconst (v := 0) rfl (by decide) ?_
    refine j_lc_lt (tgt := 40) rfl rfl (by decide) (by omega) (by omega) (by omega) (by omega) (fun hb28_1 => ?_) (fun hb28_1 => ?_)
    · skip
      refine j_iload_n rfl rfl ?_
      refine j_bipush rfl (by decide) ?_
      refine j_icmp_ne (tgt := 75) rfl (by decide) (by omega) (by omega) (by omega) (by omega) (fun hb43_2 => ?_) (fun hb43_2 => ?_)
      · skip
        have q0 := abs_tdiv (y := (ml m 15 (at0 + 1).toNat)) ha.1 ha.2
        have q1 := abs_tdiv (y := (ml m 16 (at0 + 1).toNat)) ha.1 ha.2
        have q2 := abs_tdiv (y := (ml m 15 (at0 + 1).toNat)) hb.1 hb.2
        have q3 := abs_tdiv (y := (ml m 16 (at0 + 1).toNat)) hb.1 hb.2
        refine j_aload_n rfl rfl ?_
        refine j_iload_n rfl rfl ?_
        refine j_aload_n rfl rfl ?_
        refine j_getR (q := 15) rfl f_X8_18 rfl (hS.lt (by decide)) (hS.k (by decide) (by decide)) (hS.r (by decide)) ?_
        refine j_iload_n rfl rfl ?_
        refine j_lald (n := 160) rfl (hS.lt (by decide)) (hS.k (by decide) (by decide)) (hS.n (by decide) (by decide)) (by omega) (by omega) (by decide) ?_
        have u82_2 := ml_rng m 15 at0.toNat
        refine j_lload_n rfl rfl ?_
        refine j_ldiv rfl (by omega) (by omega) (by omega) (by omega) (by omega) ?_
        refine j_aload_n rfl rfl ?_
        refine j_getR (q := 15) rfl f_X8_18 rfl (hS.lt (by decide)) (hS.k (by decide) (by decide)) (hS.r (by decide)) ?_
        refine j_iload_n rfl rfl ?_
        refine j_lald (n := 160) rfl (hS.lt (by decide)) (hS.k (by decide) (by decide)) (hS.n (by decide) (by decide)) (by omega) (by omega) (by decide) ?_
        have u90_2 := ml_rng m 15 at0.toNat
        refine j_lload rfl rfl ?_
        refine j_ldiv rfl (by omega) (by omega) (by omega) (by omega) (by omega) ?_
        refine j_aload_n rfl rfl ?_
        refine j_getR (q := 16) rfl f_X8_22 rfl (hS.lt (by decide)) (hS.k (by decide) (by decide)) (hS.r (by decide)) ?_
        refine j_iload_n rfl rfl ?_
        refine j_lald (n := 160) rfl (hS.lt (by decide)) (hS.k (by decide) (by decide)) (hS.n (by decide) (by decide)) (by omega) (by omega) (by decide) ?_
        have u99_2 := ml_rng m 16 at0.toNat
        refine j_lload_n rfl rfl ?_
        refine j_ldiv rfl (by omega) (by omega) (by omega) (by omega) (by omega) ?_
        refine j_aload_n rfl rfl ?_
        refine j_getR (q := 16) rfl f_X8_22 rfl (hS.lt (by decide)) (hS.k (by decide) (by decide)) (hS.r (by decide)) ?_
        refine j_iload_n rfl rfl ?_
        refine j_lald (n := 160) rfl (hS.lt (by decide)) (hS.k (by decide) (by decide)) (hS.n (by decide) (by decide)) (by omega) (by omega) (by decide) ?_
        have u107_2 := ml_rng m 16 at0.toNat
        refine j_lload rfl rfl ?_
        refine j_ldiv rfl (by omega) (by omega) (by omega) (by omega) (by omega) ?_
        refine j_callV (ci := 8) rfl okX8_setEnds c_X8_98 (ct_X8_setEnds hS hI (by omega) (by omega) (by omega) (by omega) (by omega) (by omega) (by omega) (by omega)) rfl rfl (hS.lt (by decide)) (hS.k (by decide) (by decide)) (by decide) rfl (Nat.le_of_ble_eq_true rfl) (by decide) (by decide) ?_
        rintro vq mq ⟨e1, e2⟩
        rw [e1, e2]
        clear e1 e2
        simp only [Option.toList_some, Option.toList_none, List.cons_append, List.nil_append]
        refine j_vret rfl rfl ?_ rfl (Nat.le_refl _)
        unfold FX8_divide
        rw [if_neg hb21_1, if_pos hb28_1, if_pos hb43_2]
        exact ⟨rfl, rfl⟩
      · skip
        refine j_lload_n rfl rfl ?_
        refine j_callS (As := [_]) rfl okJ9_abs_067f4 c_X8_105 (ct_J9_abs_067f4 (by omega) (by omega)) rfl rfl (Nat.le_of_ble_eq_true rfl) (by decide) (by decide) ?_
        rintro vq mq ⟨e1, e2⟩
        rw [e1, e2]
        clear e1 e2
        simp only [Option.toList_some, Option.toList_none, List.cons_append, List.nil_append]
        have habs160 := abs_rngL m (ml m 15 (at0 + 1).toNat) (by omega) (by omega)
        refine j_lload rfl rfl ?_
        refine j_callS (As := [_]) rfl okJ9_abs_067f4 c_X8_105 (ct_J9_abs_067f4 (by omega) (by omega)) rfl rfl (Nat.le_of_ble_eq_true rfl) (by decide) (by decide) ?_
        rintro vq mq ⟨e1, e2⟩
        rw [e1, e2]
        clear e1 e2
        simp only [Option.toList_some, Option.toList_none, List.cons_append, List.nil_append]
        have habs167 := abs_rngL m (ml m 16 (at0 + 1).toNat) (by omega) (by omega)
        refine j_callS (As := [_, _]) rfl okJ9_max_f86c9 c_X8_111 (ct_J9_max_f86c9 (by omega) (by omega) (by omega) (by omega)) rfl rfl (Nat.le_of_ble_eq_true rfl) (by decide) (by decide) ?_
        rintro vq mq ⟨e1, e2⟩
        rw [e1, e2]
        clear e1 e2
        simp only [Option.toList_some, Option.toList_none, List.cons_append, List.nil_append]
        have hmxL := maxL_rng m (FJ9_abs_067f4 m (ml m 15 (at0 + 1).toNat)) (FJ9_abs_067f4 m (ml m 16 (at0 + 1).toNat))
        refine j_lconst (v := 1) rfl (by decide) ?_
        refine j_lsub rfl ?_
        refine j_lstore rfl (by decide) ?_
        refine j_aload_n rfl rfl ?_
        refine j_iload_n rfl rfl ?_
        refine j_lload rfl rfl ?_
        refine j_lneg rfl ?_
        refine j_lload rfl rfl ?_
        refine j_callV (ci := 8) rfl okX8_set c_X8_78 (ct_X8_set hS hI (by omega) (by omega) (by omega) (by omega) (by omega) (by omega) (by omega) (by omega)) rfl rfl (hS.lt (by decide)) (hS.k (by decide) (by decide)) (by decide) rfl (Nat.le_of_ble_eq_true rfl) (by decide) (by decide) ?_
        rintro vq mq ⟨e1, e2⟩
        rw [e1, e2]
        clear e1 e2
        simp only [Option.toList_some, Option.toList_none, List.cons_append, List.nil_append]
        refine j_goto (tgt := 114) rfl (by decide) ?_
        refine j_vret rfl rfl ?_ rfl (Nat.le_refl _)
        unfold FX8_divide
        rw [if_neg hb21_1, if_pos hb28_1, if_neg (not_not_intro hb43_2)]
        exact ⟨rfl, rfl⟩
    · skip
      refine j_aload_n rfl rfl ?_
      refine j_iconst rfl ?_
      refine j_putZ rfl f_X8_61 (by omega) rfl (hS.lt (by decide)) (hS.k (by decide) (by decide)) ?_
      refine j_goto (tgt := 114) rfl (by decide) ?_
      refine j_vret rfl rfl ?_ rfl (Nat.le_refl _)
      unfold FX8_divide
      rw [if_neg hb21_1, if_neg hb28_1]
      exact ⟨rfl, rfl⟩

def FX8_join (m : AM) (what : Int) (at0 : Int) : AM :=
  if what = 12 then
    (FX8_set m at0 ((ml m 15 at0.toNat) + (ml m 15 (at0 + 1).toNat)) ((ml m 16 at0.toNat) + (ml m 16 (at0 + 1).toNat)))
  else
    if what = 13 then
      (FX8_set m at0 ((ml m 15 at0.toNat) - (ml m 16 (at0 + 1).toNat)) ((ml m 16 at0.toNat) - (ml m 15 (at0 + 1).toNat)))
    else
      if what = 14 then
        (FX8_setEnds m at0 ((ml m 15 at0.toNat) * (ml m 15 (at0 + 1).toNat)) ((ml m 15 at0.toNat) * (ml m 16 (at0 + 1).toNat)) ((ml m 16 at0.toNat) * (ml m 15 (at0 + 1).toNat)) ((ml m 16 at0.toNat) * (ml m 16 (at0 + 1).toNat)))
      else
        if what = 15 then
          (FX8_divide m what at0)
        else
          if what = 16 then
            (FX8_divide m what at0)
          else
            (FX8_set m at0 0 1)
set_option maxRecDepth 20000 in
set_option maxHeartbeats 4000000 in
theorem ct_X8_join {G : QW} {m : AM} (hS : St m) (hI : IM m) {what : Int} {at0 : Int} (hwhat1 : -2147483648 ≤ what) (hwhat2 : what < 2147483648) (hat01 : -2147483648 ≤ at0) (hat02 : at0 < 2147483648) (h3 : 0 ≤ at0) (h4 : at0 ≤ 158) (ha : -1000000000 ≤ (ml m 15 at0.toNat) ∧ (ml m 15 at0.toNat) ≤ 1000000000) (hb : -1000000000 ≤ (ml m 16 at0.toNat) ∧ (ml m 16 at0.toNat) ≤ 1000000000) (hc : -1000000000 ≤ (ml m 15 (at0 + 1).toNat) ∧ (ml m 15 (at0 + 1).toNat) ≤ 1000000000) (hd : -1000000000 ≤ (ml m 16 (at0 + 1).toNat) ∧ (ml m 16 (at0 + 1).toNat) ≤ 1000000000) (hcd : (ml m 15 (at0 + 1).toNat) ≤ (ml m 16 (at0 + 1).toNat)) : qM G mX8_join 3 0 0 [vR 12, vI what, vI at0] m (fun r m' => r = none ∧ m' = FX8_join m what at0) := by
  refine qM.intro okX8_join (Nat.le_of_ble_eq_true rfl) ?_
  refine j_iload_n rfl rfl ?_
  by_cases hs1_1_12 : what = 12
  · skip
    refine j_tableIn (tgt := 36) rfl (by omega) (by omega) (by omega) (by omega) (by rw [hs1_1_12]; rfl) (by decide) ?_
    refine j_aload_n rfl rfl ?_
    refine j_iload_n rfl rfl ?_
    refine j_aload_n rfl rfl ?_
    refine j_getR (q := 15) rfl f_X8_18 rfl (hS.lt (by decide)) (hS.k (by decide) (by decide)) (hS.r (by decide)) ?_
    refine j_iload_n rfl rfl ?_
    refine j_lald (n := 160) rfl (hS.lt (by decide)) (hS.k (by decide) (by decide)) (hS.n (by decide) (by decide)) (by omega) (by omega) (by decide) ?_
    have u43_1 := ml_rng m 15 at0.toNat
    refine j_aload_n rfl rfl ?_
    refine j_getR (q := 15) rfl f_X8_18 rfl (hS.lt (by decide)) (hS.k (by decide) (by decide)) (hS.r (by decide)) ?_
    refine j_iload_n rfl rfl ?_
    refine j_iconst rfl ?_
    refine j_iadd rfl ?_
    refine j_lald (n := 160) rfl (hS.lt (by decide)) (hS.k (by decide) (by decide)) (hS.n (by decide) (by decide)) (by omega) (by omega) (by decide) ?_
    have u51_1 := ml_rng m 15 (at0 + 1).toNat
    refine j_ladd rfl ?_
    refine j_aload_n rfl rfl ?_
    refine j_getR (q := 16) rfl f_X8_22 rfl (hS.lt (by decide)) (hS.k (by decide) (by decide)) (hS.r (by decide)) ?_
    refine j_iload_n rfl rfl ?_
    refine j_lald (n := 160) rfl (hS.lt (by decide)) (hS.k (by decide) (by decide)) (hS.n (by decide) (by decide)) (by omega) (by omega) (by decide) ?_
    have u58_1 := ml_rng m 16 at0.toNat
    refine j_aload_n rfl rfl ?_
    refine j_getR (q := 16) rfl f_X8_22 rfl (hS.lt (by decide)) (hS.k (by decide) (by decide)) (hS.r (by decide)) ?_
    refine j_iload_n rfl rfl ?_
    refine j_iconst rfl ?_
    refine j_iadd rfl ?_
    refine j_lald (n := 160) rfl (hS.lt (by decide)) (hS.k (by decide) (by decide)) (hS.n (by decide) (by decide)) (by omega) (by omega) (by decide) ?_
    have u66_1 := ml_rng m 16 (at0 + 1).toNat
    refine j_ladd rfl ?_
    refine j_callV (ci := 8) rfl okX8_set c_X8_78 (ct_X8_set hS hI (by omega) (by omega) (by omega) (by omega) (by omega) (by omega) (by omega) (by omega)) rfl rfl (hS.lt (by decide)) (hS.k (by decide) (by decide)) (by decide) rfl (Nat.le_of_ble_eq_true rfl) (by decide) (by decide) ?_
    rintro vq mq ⟨e1, e2⟩
    rw [e1, e2]
    clear e1 e2
    simp only [Option.toList_some, Option.toList_none, List.cons_append, List.nil_append]
    refine j_goto (tgt := 196) rfl (by decide) ?_
    refine j_vret rfl rfl ?_ rfl (Nat.le_refl _)
    unfold FX8_join
    rw [if_pos hs1_1_12]
    exact ⟨rfl, rfl⟩
  · skip
    by_cases hs1_1_13 : what = 13
    · skip
      refine j_tableIn (tgt := 74) rfl (by omega) (by omega) (by omega) (by omega) (by rw [hs1_1_13]; rfl) (by decide) ?_
      refine j_aload_n rfl rfl ?_
      refine j_iload_n rfl rfl ?_
      refine j_aload_n rfl rfl ?_
      refine j_getR (q := 15) rfl f_X8_18 rfl (hS.lt (by decide)) (hS.k (by decide) (by decide)) (hS.r (by decide)) ?_
      refine j_iload_n rfl rfl ?_
      refine j_lald (n := 160) rfl (hS.lt (by decide)) (hS.k (by decide) (by decide)) (hS.n (by decide) (by decide)) (by omega) (by omega) (by decide) ?_
      have u81_1 := ml_rng m 15 at0.toNat
      refine j_aload_n rfl rfl ?_
      refine j_getR (q := 16) rfl f_X8_22 rfl (hS.lt (by decide)) (hS.k (by decide) (by decide)) (hS.r (by decide)) ?_
      refine j_iload_n rfl rfl ?_
      refine j_iconst rfl ?_
      refine j_iadd rfl ?_
      refine j_lald (n := 160) rfl (hS.lt (by decide)) (hS.k (by decide) (by decide)) (hS.n (by decide) (by decide)) (by omega) (by omega) (by decide) ?_
      have u89_1 := ml_rng m 16 (at0 + 1).toNat
      refine j_lsub rfl ?_
      refine j_aload_n rfl rfl ?_
      refine j_getR (q := 16) rfl f_X8_22 rfl (hS.lt (by decide)) (hS.k (by decide) (by decide)) (hS.r (by decide)) ?_
      refine j_iload_n rfl rfl ?_
      refine j_lald (n := 160) rfl (hS.lt (by decide)) (hS.k (by decide) (by decide)) (hS.n (by decide) (by decide)) (by omega) (by omega) (by decide) ?_
      have u96_1 := ml_rng m 16 at0.toNat
      refine j_aload_n rfl rfl ?_
      refine j_getR (q := 15) rfl f_X8_18 rfl (hS.lt (by decide)) (hS.k (by decide) (by decide)) (hS.r (by decide)) ?_
      refine j_iload_n rfl rfl ?_
      refine j_iconst rfl ?_
      refine j_iadd rfl ?_
      refine j_lald (n := 160) rfl (hS.lt (by decide)) (hS.k (by decide) (by decide)) (hS.n (by decide) (by decide)) (by omega) (by omega) (by decide) ?_
      have u104_1 := ml_rng m 15 (at0 + 1).toNat
      refine j_lsub rfl ?_
      refine j_callV (ci := 8) rfl okX8_set c_X8_78 (ct_X8_set hS hI (by omega) (by omega) (by omega) (by omega) (by omega) (by omega) (by omega) (by omega)) rfl rfl (hS.lt (by decide)) (hS.k (by decide) (by decide)) (by decide) rfl (Nat.le_of_ble_eq_true rfl) (by decide) (by decide) ?_
      rintro vq mq ⟨e1, e2⟩
      rw [e1, e2]
      clear e1 e2
      simp only [Option.toList_some, Option.toList_none, List.cons_append, List.nil_append]
      refine j_goto (tgt := 196) rfl (by decide) ?_
      refine j_vret rfl rfl ?_ rfl (Nat.le_refl _)
      unfold FX8_join
      rw [if_neg hs1_1_12, if_pos hs1_1_13]
      exact ⟨rfl, rfl⟩
    · skip
      by_cases hs1_1_14 : what = 14
      · skip
        refine j_tableIn (tgt := 112) rfl (by omega) (by omega) (by omega) (by omega) (by rw [hs1_1_14]; rfl) (by decide) ?_
        have p0 := abs_mul ha.1 ha.2 hc.1 hc.2
        have p1 := abs_mul ha.1 ha.2 hd.1 hd.2
        have p2 := abs_mul hb.1 hb.2 hc.1 hc.2
        have p3 := abs_mul hb.1 hb.2 hd.1 hd.2
        refine j_aload_n rfl rfl ?_
        refine j_iload_n rfl rfl ?_
        refine j_aload_n rfl rfl ?_
        refine j_getR (q := 15) rfl f_X8_18 rfl (hS.lt (by decide)) (hS.k (by decide) (by decide)) (hS.r (by decide)) ?_
        refine j_iload_n rfl rfl ?_
        refine j_lald (n := 160) rfl (hS.lt (by decide)) (hS.k (by decide) (by decide)) (hS.n (by decide) (by decide)) (by omega) (by omega) (by decide) ?_
        have u119_1 := ml_rng m 15 at0.toNat
        refine j_aload_n rfl rfl ?_
        refine j_getR (q := 15) rfl f_X8_18 rfl (hS.lt (by decide)) (hS.k (by decide) (by decide)) (hS.r (by decide)) ?_
        refine j_iload_n rfl rfl ?_
        refine j_iconst rfl ?_
        refine j_iadd rfl ?_
        refine j_lald (n := 160) rfl (hS.lt (by decide)) (hS.k (by decide) (by decide)) (hS.n (by decide) (by decide)) (by omega) (by omega) (by decide) ?_
        have u127_1 := ml_rng m 15 (at0 + 1).toNat
        refine j_lmul rfl ?_
        refine j_aload_n rfl rfl ?_
        refine j_getR (q := 15) rfl f_X8_18 rfl (hS.lt (by decide)) (hS.k (by decide) (by decide)) (hS.r (by decide)) ?_
        refine j_iload_n rfl rfl ?_
        refine j_lald (n := 160) rfl (hS.lt (by decide)) (hS.k (by decide) (by decide)) (hS.n (by decide) (by decide)) (by omega) (by omega) (by decide) ?_
        have u134_1 := ml_rng m 15 at0.toNat
        refine j_aload_n rfl rfl ?_
        refine j_getR (q := 16) rfl f_X8_22 rfl (hS.lt (by decide)) (hS.k (by decide) (by decide)) (hS.r (by decide)) ?_
        refine j_iload_n rfl rfl ?_
        refine j_iconst rfl ?_
        refine j_iadd rfl ?_
        refine j_lald (n := 160) rfl (hS.lt (by decide)) (hS.k (by decide) (by decide)) (hS.n (by decide) (by decide)) (by omega) (by omega) (by decide) ?_
        have u142_1 := ml_rng m 16 (at0 + 1).toNat
        refine j_lmul rfl ?_
        refine j_aload_n rfl rfl ?_
        refine j_getR (q := 16) rfl f_X8_22 rfl (hS.lt (by decide)) (hS.k (by decide) (by decide)) (hS.r (by decide)) ?_
        refine j_iload_n rfl rfl ?_
        refine j_lald (n := 160) rfl (hS.lt (by decide)) (hS.k (by decide) (by decide)) (hS.n (by decide) (by decide)) (by omega) (by omega) (by decide) ?_
        have u149_1 := ml_rng m 16 at0.toNat
        refine j_aload_n rfl rfl ?_
        refine j_getR (q := 15) rfl f_X8_18 rfl (hS.lt (by decide)) (hS.k (by decide) (by decide)) (hS.r (by decide)) ?_
        refine j_iload_n rfl rfl ?_
        refine j_iconst rfl ?_
        refine j_iadd rfl ?_
        refine j_lald (n := 160) rfl (hS.lt (by decide)) (hS.k (by decide) (by decide)) (hS.n (by decide) (by decide)) (by omega) (by omega) (by decide) ?_
        have u157_1 := ml_rng m 15 (at0 + 1).toNat
        refine j_lmul rfl ?_
        refine j_aload_n rfl rfl ?_
        refine j_getR (q := 16) rfl f_X8_22 rfl (hS.lt (by decide)) (hS.k (by decide) (by decide)) (hS.r (by decide)) ?_
        refine j_iload_n rfl rfl ?_
        refine j_lald (n := 160) rfl (hS.lt (by decide)) (hS.k (by decide) (by decide)) (hS.n (by decide) (by decide)) (by omega) (by omega) (by decide) ?_
        have u164_1 := ml_rng m 16 at0.toNat
        refine j_aload_n rfl rfl ?_
        refine j_getR (q := 16) rfl f_X8_22 rfl (hS.lt (by decide)) (hS.k (by decide) (by decide)) (hS.r (by decide)) ?_
        refine j_iload_n rfl rfl ?_
        refine j_iconst rfl ?_
        refine j_iadd rfl ?_
        refine j_lald (n := 160) rfl (hS.lt (by decide)) (hS.k (by decide) (by decide)) (hS.n (by decide) (by decide)) (by omega) (by omega) (by decide) ?_
        have u172_1 := ml_rng m 16 (at0 + 1).toNat
        refine j_lmul rfl ?_
        refine j_callV (ci := 8) rfl okX8_setEnds c_X8_98 (ct_X8_setEnds hS hI (by omega) (by omega) (by omega) (by omega) (by omega) (by omega) (by omega) (by omega)) rfl rfl (hS.lt (by decide)) (hS.k (by decide) (by decide)) (by decide) rfl (Nat.le_of_ble_eq_true rfl) (by decide) (by decide) ?_
        rintro vq mq ⟨e1, e2⟩
        rw [e1, e2]
        clear e1 e2
        simp only [Option.toList_some, Option.toList_none, List.cons_append, List.nil_append]
        refine j_goto (tgt := 196) rfl (by decide) ?_
        refine j_vret rfl rfl ?_ rfl (Nat.le_refl _)
        unfold FX8_join
        rw [if_neg hs1_1_12, if_neg hs1_1_13, if_pos hs1_1_14]
        exact ⟨rfl, rfl⟩
      · skip
        by_cases hs1_1_15 : what = 15
        · skip
          refine j_tableIn (tgt := 180) rfl (by omega) (by omega) (by omega) (by omega) (by rw [hs1_1_15]; rfl) (by decide) ?_
          refine j_aload_n rfl rfl ?_
          refine j_iload_n rfl rfl ?_
          refine j_iload_n rfl rfl ?_
          refine j_callV (ci := 8) rfl okX8_divide c_X8_102 (ct_X8_divide hS hI (by omega) (by omega) (by omega) (by omega) h3 h4 ha hb hc hd hcd) rfl rfl (hS.lt (by decide)) (hS.k (by decide) (by decide)) (by decide) rfl (Nat.le_of_ble_eq_true rfl) (by decide) (by decide) ?_
          rintro vq mq ⟨e1, e2⟩
          rw [e1, e2]
          clear e1 e2
          simp only [Option.toList_some, Option.toList_none, List.cons_append, List.nil_append]
          refine j_goto (tgt := 196) rfl (by decide) ?_
          refine j_vret rfl rfl ?_ rfl (Nat.le_refl _)
          unfold FX8_join
          rw [if_neg hs1_1_12, if_neg hs1_1_13, if_neg hs1_1_14, if_pos hs1_1_15]
          exact ⟨rfl, rfl⟩
        · skip
          by_cases hs1_1_16 : what = 16
          · skip
            refine j_tableIn (tgt := 180) rfl (by omega) (by omega) (by omega) (by omega) (by rw [hs1_1_16]; rfl) (by decide) ?_
            refine j_aload_n rfl rfl ?_
            refine j_iload_n rfl rfl ?_
            refine j_iload_n rfl rfl ?_
            refine j_callV (ci := 8) rfl okX8_divide c_X8_102 (ct_X8_divide hS hI (by omega) (by omega) (by omega) (by omega) h3 h4 ha hb hc hd hcd) rfl rfl (hS.lt (by decide)) (hS.k (by decide) (by decide)) (by decide) rfl (Nat.le_of_ble_eq_true rfl) (by decide) (by decide) ?_
            rintro vq mq ⟨e1, e2⟩
            rw [e1, e2]
            clear e1 e2
            simp only [Option.toList_some, Option.toList_none, List.cons_append, List.nil_append]
            refine j_goto (tgt := 196) rfl (by decide) ?_
            refine j_vret rfl rfl ?_ rfl (Nat.le_refl _)
            unfold FX8_join
            rw [if_neg hs1_1_12, if_neg hs1_1_13, if_neg hs1_1_14, if_neg hs1_1_15, if_pos hs1_1_16]
            exact ⟨rfl, rfl⟩
          · skip
            refine j_tableOut (tgt := 189) rfl (by omega) (by omega) (by omega) (by decide) ?_
            refine j_aload_n rfl rfl ?_
            refine j_iload_n rfl rfl ?_
            refine j_lconst (v := 0) rfl (by decide) ?_
            refine j_lconst (v := 1) rfl (by decide) ?_
            refine j_callV (ci := 8) rfl okX8_set c_X8_78 (ct_X8_set hS hI (by omega) (by omega) (by omega) (by omega) (by omega) (by omega) (by omega) (by omega)) rfl rfl (hS.lt (by decide)) (hS.k (by decide) (by decide)) (by decide) rfl (Nat.le_of_ble_eq_true rfl) (by decide) (by decide) ?_
            rintro vq mq ⟨e1, e2⟩
            rw [e1, e2]
            clear e1 e2
            simp only [Option.toList_some, Option.toList_none, List.cons_append, List.nil_append]
            refine j_vret rfl rfl ?_ rfl (Nat.le_refl _)
            unfold FX8_join
            rw [if_neg hs1_1_12, if_neg hs1_1_13, if_neg hs1_1_14, if_neg hs1_1_15, if_neg hs1_1_16]
            exact ⟨rfl, rfl⟩

